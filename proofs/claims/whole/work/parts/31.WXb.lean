section WW
variable {p : Program} {l : Launch} {e : Env} {s : State} {m : MethodId} {args : Array Value} {below : List Frame} {meth : Method} {c : Code} {G : x_G}
abbrev rm_X6_tellAunt : Room := { frames := 1, cells := 0, slots := 0, locals := 22 }
set_option maxHeartbeats 4000000 in
set_option maxRecDepth 100000 in
theorem w_X6_tellAunt_111 {τ : x_Hp} (C : x_C p s m args meth c cX6_tellAunt 5 none yX6_tellAunt.cls TX G) (o : Nat) (s0 : Int32) (s1 : Int32) (s2 : Nat) (σ : x_Hp) (hk_o : x_kd TX o = 6) (hk_s2 : x_kd TX s2 = 12) (h : F_X6_tellAunt_111 o s0 s1 s2 σ = some ((), τ)) : x_W p l e rm_X6_tellAunt s m args below meth c (MQ below (x_Q TX G none τ) args s 0 0 (x_A TX G)) TX G 5 111 [(0, .ref (x_ad G o))] [.int s0, .int s1, .ref (x_ad G s2)] σ := by
  have hG : x_OK TX G := C.2.2.2.2.2.2.2.2.1
  rw [F_X6_tellAunt_111] at h
  obtain ⟨v11, σ11, hc11, h⟩ := x_b_some h
  refine x_callSN C (n := 3) (c_X8_put hG hk_s2 hc11) nw_760 wd_522 wd_102 wd_523 (by decide +kernel) rfl ⟨Nat.le_of_ble_eq_true rfl, Nat.le_of_ble_eq_true rfl⟩ ⟨rfl, rfl⟩ rfl (Nat.le_of_ble_eq_true rfl) dX6_tellAunt_111 ?_
  refine x_aload_n C 0 dX6_tellAunt_114 rfl rfl ?_
  refine x_dup C dX6_tellAunt_115 rfl ?_
  refine x_getI C (k := 7) hk_o (by decide) rfl x_in6 (by decide) (by decide) rfl rfl wd_184 dX6_tellAunt_116 ?_
  refine x_iconst C (1 : Int32) dX6_tellAunt_119 (by decide) ?_
  refine x_iadd C dX6_tellAunt_120 ?_
  refine x_putI C (k := 7) tyX6 hk_o (by decide) rfl x_in6 tyX6_ok nmX6 (by decide) (by decide) rfl rfl wd_184 rfl (tyX6_ok 7 (by decide)) rfl rfl dX6_tellAunt_121 (x_gen h fun σ12 h => ?_)
  obtain ⟨-, rfl⟩ := x_ret h
  exact x_vret C dX6_tellAunt_124
set_option maxHeartbeats 4000000 in
set_option maxRecDepth 100000 in
theorem w_X6_tellAunt_29 {τ : x_Hp} (C : x_C p s m args meth c cX6_tellAunt 5 none yX6_tellAunt.cls TX G) (o : Nat) (r3 : Nat) (x4 : Int32) (σ : x_Hp) (hk_o : x_kd TX o = 6) (hk_r3 : x_kd TX r3 = 12) (h : F_X6_tellAunt_29 o r3 x4 σ = some ((), τ)) : x_W p l e rm_X6_tellAunt s m args below meth c (MQ below (x_Q TX G none τ) args s 0 0 (x_A TX G)) TX G 5 29 [(0, .ref (x_ad G o)), (3, .ref (x_ad G r3)), (4, .int x4)] [] σ := by
  have hG : x_OK TX G := C.2.2.2.2.2.2.2.2.1
  rw [F_X6_tellAunt_29] at h
  refine x_aload_n C 0 dX6_tellAunt_29 rfl rfl ?_
  refine x_getR C (k := 9) hk_o (by decide) rfl x_in6 (by decide) (by decide) rfl rfl wd_190 dX6_tellAunt_30 ?_
  refine x_aload_n C 0 dX6_tellAunt_33 rfl rfl ?_
  refine x_getI C (k := 7) hk_o (by decide) rfl x_in6 (by decide) (by decide) rfl rfl wd_184 dX6_tellAunt_34 ?_
  refine x_aload_n C 1 dX6_tellAunt_37 rfl rfl ?_
  refine x_iconst C (0 : Int32) dX6_tellAunt_38 (by decide) ?_
  obtain ⟨v3, σ3, hc3, h⟩ := x_b_some h
  refine x_callSN C (n := 2) (c_X8_at hG hk_r3 hc3) nw_759 wd_541 wd_102 wd_542 (by decide +kernel) rfl ⟨Nat.le_of_ble_eq_true rfl, Nat.le_of_ble_eq_true rfl⟩ ⟨rfl, rfl⟩ rfl (Nat.le_of_ble_eq_true rfl) dX6_tellAunt_39 ?_
  obtain ⟨v4, σ4, hc4, h⟩ := x_b_some h
  refine x_callSN C (n := 3) (c_X8_put hG (t_TX_6_9 hk_o) hc4) nw_760 wd_522 wd_102 wd_523 (by decide +kernel) rfl ⟨Nat.le_of_ble_eq_true rfl, Nat.le_of_ble_eq_true rfl⟩ ⟨rfl, rfl⟩ rfl (Nat.le_of_ble_eq_true rfl) dX6_tellAunt_42 ?_
  refine x_aload_n C 0 dX6_tellAunt_45 rfl rfl ?_
  refine x_getR C (k := 10) hk_o (by decide) rfl x_in6 (by decide) (by decide) rfl rfl wd_193 dX6_tellAunt_46 ?_
  refine x_aload_n C 0 dX6_tellAunt_49 rfl rfl ?_
  refine x_getI C (k := 7) hk_o (by decide) rfl x_in6 (by decide) (by decide) rfl rfl wd_184 dX6_tellAunt_50 ?_
  refine x_aload_n C 1 dX6_tellAunt_53 rfl rfl ?_
  refine x_iconst C (1 : Int32) dX6_tellAunt_54 (by decide) ?_
  obtain ⟨v5, σ5, hc5, h⟩ := x_b_some h
  refine x_callSN C (n := 2) (c_X8_at hG hk_r3 hc5) nw_759 wd_541 wd_102 wd_542 (by decide +kernel) rfl ⟨Nat.le_of_ble_eq_true rfl, Nat.le_of_ble_eq_true rfl⟩ ⟨rfl, rfl⟩ rfl (Nat.le_of_ble_eq_true rfl) dX6_tellAunt_55 ?_
  obtain ⟨v6, σ6, hc6, h⟩ := x_b_some h
  refine x_callSN C (n := 3) (c_X8_put hG (t_TX_6_10 hk_o) hc6) nw_760 wd_522 wd_102 wd_523 (by decide +kernel) rfl ⟨Nat.le_of_ble_eq_true rfl, Nat.le_of_ble_eq_true rfl⟩ ⟨rfl, rfl⟩ rfl (Nat.le_of_ble_eq_true rfl) dX6_tellAunt_58 ?_
  refine x_aload_n C 0 dX6_tellAunt_61 rfl rfl ?_
  refine x_getR C (k := 11) hk_o (by decide) rfl x_in6 (by decide) (by decide) rfl rfl wd_195 dX6_tellAunt_62 ?_
  refine x_aload_n C 0 dX6_tellAunt_65 rfl rfl ?_
  refine x_getI C (k := 7) hk_o (by decide) rfl x_in6 (by decide) (by decide) rfl rfl wd_184 dX6_tellAunt_66 ?_
  refine x_aload_n C 1 dX6_tellAunt_69 rfl rfl ?_
  refine x_iconst C (2 : Int32) dX6_tellAunt_70 (by decide) ?_
  obtain ⟨v7, σ7, hc7, h⟩ := x_b_some h
  refine x_callSN C (n := 2) (c_X8_at hG hk_r3 hc7) nw_759 wd_541 wd_102 wd_542 (by decide +kernel) rfl ⟨Nat.le_of_ble_eq_true rfl, Nat.le_of_ble_eq_true rfl⟩ ⟨rfl, rfl⟩ rfl (Nat.le_of_ble_eq_true rfl) dX6_tellAunt_71 ?_
  obtain ⟨v8, σ8, hc8, h⟩ := x_b_some h
  refine x_callSN C (n := 3) (c_X8_put hG (t_TX_6_11 hk_o) hc8) nw_760 wd_522 wd_102 wd_523 (by decide +kernel) rfl ⟨Nat.le_of_ble_eq_true rfl, Nat.le_of_ble_eq_true rfl⟩ ⟨rfl, rfl⟩ rfl (Nat.le_of_ble_eq_true rfl) dX6_tellAunt_74 ?_
  refine x_aload_n C 0 dX6_tellAunt_77 rfl rfl ?_
  refine x_getR C (k := 12) hk_o (by decide) rfl x_in6 (by decide) (by decide) rfl rfl wd_197 dX6_tellAunt_78 ?_
  refine x_aload_n C 0 dX6_tellAunt_81 rfl rfl ?_
  refine x_getI C (k := 7) hk_o (by decide) rfl x_in6 (by decide) (by decide) rfl rfl wd_184 dX6_tellAunt_82 ?_
  refine x_aload_n C 1 dX6_tellAunt_85 rfl rfl ?_
  refine x_iconst C (3 : Int32) dX6_tellAunt_86 (by decide) ?_
  obtain ⟨v9, σ9, hc9, h⟩ := x_b_some h
  refine x_callSN C (n := 2) (c_X8_at hG hk_r3 hc9) nw_759 wd_541 wd_102 wd_542 (by decide +kernel) rfl ⟨Nat.le_of_ble_eq_true rfl, Nat.le_of_ble_eq_true rfl⟩ ⟨rfl, rfl⟩ rfl (Nat.le_of_ble_eq_true rfl) dX6_tellAunt_87 ?_
  obtain ⟨v10, σ10, hc10, h⟩ := x_b_some h
  refine x_callSN C (n := 3) (c_X8_put hG (t_TX_6_12 hk_o) hc10) nw_760 wd_522 wd_102 wd_523 (by decide +kernel) rfl ⟨Nat.le_of_ble_eq_true rfl, Nat.le_of_ble_eq_true rfl⟩ ⟨rfl, rfl⟩ rfl (Nat.le_of_ble_eq_true rfl) dX6_tellAunt_90 ?_
  refine x_aload_n C 0 dX6_tellAunt_93 rfl rfl ?_
  refine x_getR C (k := 13) hk_o (by decide) rfl x_in6 (by decide) (by decide) rfl rfl wd_199 dX6_tellAunt_94 ?_
  refine x_aload_n C 0 dX6_tellAunt_97 rfl rfl ?_
  refine x_getI C (k := 7) hk_o (by decide) rfl x_in6 (by decide) (by decide) rfl rfl wd_184 dX6_tellAunt_98 ?_
  refine x_iload C 2 dX6_tellAunt_101 rfl ?_
  refine x_if_eq C 110 dX6_tellAunt_103 rfl (fun hc => ?_) (fun hc => ?_)
  · replace h := x_itp hc h
    refine x_iconst C (0 : Int32) dX6_tellAunt_110 (by decide) ?_
    exact x_sub [0] rfl (w_X6_tellAunt_111 C o (0 : Int32) (σ10.1 o 7) (x_rf TX o 13) σ10 hk_o (t_TX_6_13 hk_o) h)
  · replace h := x_itn hc h
    refine x_iconst C (1 : Int32) dX6_tellAunt_106 (by decide) ?_
    refine x_goto C 111 dX6_tellAunt_107 rfl ?_
    exact x_sub [0] rfl (w_X6_tellAunt_111 C o (1 : Int32) (σ10.1 o 7) (x_rf TX o 13) σ10 hk_o (t_TX_6_13 hk_o) h)
set_option maxHeartbeats 4000000 in
set_option maxRecDepth 100000 in
theorem c_X6_tellAunt (hG : x_OK TX G) {o : Nat} {y1 : Int64} {r3 : Nat} {x4 : Int32} {σ τ : x_Hp} (hk_o : x_kd TX o = 6) (hk_r3 : x_kd TX r3 = 12) (h : F_X6_tellAunt o y1 r3 x4 σ = some ((), τ)) : x_M l TX G yX6_tellAunt cX6_tellAunt 5 none rm_X6_tellAunt [.ref (x_ad G o), .long y1, .ref (x_ad G r3), .int x4] σ none τ := by
  refine x_M.of hG (lv := [(0, .ref (x_ad G o)), (1, .long y1), (3, .ref (x_ad G r3)), (4, .int x4)]) (by decide) (Nat.le_of_ble_eq_true rfl) rfl (fun p e s m below meth c C => ?_)
  rw [F_X6_tellAunt] at h
  refine x_aload_n C 0 dX6_tellAunt_0 rfl rfl ?_
  refine x_getI C (k := 7) hk_o (by decide) rfl x_in6 (by decide) (by decide) rfl rfl wd_184 dX6_tellAunt_1 ?_
  refine x_if_lt C 29 dX6_tellAunt_4 rfl (fun hc => ?_) (fun hc => ?_)
  · replace h := x_itp hc h
    exact x_sub [0, 2, 3] rfl (w_X6_tellAunt_29 C o r3 x4 σ hk_o hk_r3 h)
  · replace h := x_itn hc h
    refine x_aload_n C 0 dX6_tellAunt_7 rfl rfl ?_
    refine x_getI C (k := 7) hk_o (by decide) rfl x_in6 (by decide) (by decide) rfl rfl wd_184 dX6_tellAunt_8 ?_
    refine x_aload_n C 0 dX6_tellAunt_11 rfl rfl ?_
    refine x_getR C (k := 8) hk_o (by decide) rfl x_in6 (by decide) (by decide) rfl rfl wd_189 dX6_tellAunt_12 ?_
    refine x_alen C (Int32.ofNat (x_ln TX (x_rf TX o 8))) (t_TX_6_8 hk_o) (by decide) rfl dX6_tellAunt_15 ?_
    refine x_icmp_ge C 29 dX6_tellAunt_16 rfl (fun hc => ?_) (fun hc => ?_)
    · replace h := x_itp hc h
      exact x_sub [0, 2, 3] rfl (w_X6_tellAunt_29 C o r3 x4 σ hk_o hk_r3 h)
    · replace h := x_itn hc h
      refine x_aload_n C 0 dX6_tellAunt_19 rfl rfl ?_
      refine x_getR C (k := 8) hk_o (by decide) rfl x_in6 (by decide) (by decide) rfl rfl wd_189 dX6_tellAunt_20 ?_
      refine x_aload_n C 0 dX6_tellAunt_23 rfl rfl ?_
      refine x_getI C (k := 7) hk_o (by decide) rfl x_in6 (by decide) (by decide) rfl rfl wd_184 dX6_tellAunt_24 ?_
      refine x_lload_n C 1 dX6_tellAunt_27 rfl rfl ?_
      obtain ⟨hi1, h⟩ := x_gd_some h
      refine x_last C (t_TX_6_8 hk_o) hi1 dX6_tellAunt_28 (x_gen h fun σ2 h => ?_)
      exact x_sub [0, 2, 3] rfl (w_X6_tellAunt_29 C o r3 x4 σ2 hk_o hk_r3 h)
abbrev rm_X4_tellAunt : Room := { frames := 4, cells := 0, slots := 0, locals := 87 }
set_option maxHeartbeats 4000000 in
set_option maxRecDepth 100000 in
theorem w_X4_tellAunt_118 {r : Int32} {τ : x_Hp} (C : x_C p s m args meth c cX4_tellAunt 4 (some .boolean) yX4_tellAunt.cls TX G) (y1 : Int64) (x3 : Int32) (σ : x_Hp) (h : F_X4_tellAunt_118 y1 x3 σ = some (r, τ)) : x_W p l e rm_X4_tellAunt s m args below meth c (MQ below (x_Q TX G (some (.int r)) τ) args s 0 0 (x_A TX G)) TX G 4 118 [(0, .ref (x_ad G 14)), (1, .long y1), (3, .int x3)] [] σ := by
  have hG : x_OK TX G := C.2.2.2.2.2.2.2.2.1
  rw [F_X4_tellAunt_118] at h
  refine x_aload_n C 0 dX4_tellAunt_118 rfl rfl ?_
  refine x_getRq C (k := 12) kX_14 (by decide) rfl x_in4 (by decide) (by decide) rfl rfl wd_258 rfX_14_12 dX4_tellAunt_119 ?_
  refine x_lload_n C 1 dX4_tellAunt_122 rfl rfl ?_
  refine x_aload_n C 0 dX4_tellAunt_123 rfl rfl ?_
  refine x_getRq C (k := 7) kX_14 (by decide) rfl x_in4 (by decide) (by decide) rfl rfl wd_252 rfX_14_7 dX4_tellAunt_124 ?_
  refine x_iload_n C 2 dX4_tellAunt_127 rfl rfl ?_
  obtain ⟨v12, σ12, hc12, h⟩ := x_b_some h
  refine x_callV C (n := 3) (c_X6_tellAunt hG kX_21 kX_19 hc12) kX_21 (by decide) rfl wd_755 wd_756 wd_757 wd_103 wd_758 (by decide +kernel) rfl ⟨Nat.le_of_ble_eq_true rfl, Nat.le_of_ble_eq_true rfl⟩ ⟨rfl, rfl⟩ rfl (Nat.le_of_ble_eq_true rfl) dX4_tellAunt_128 ?_
  refine x_aload_n C 0 dX4_tellAunt_131 rfl rfl ?_
  refine x_bipush C (59 : Int32) dX4_tellAunt_132 (by decide) ?_
  obtain ⟨v13, σ13, hc13, h⟩ := x_b_some h
  refine x_callV C (n := 1) (c_X4_take_ hG hc13) kX_14 (by decide) rfl wd_747 wd_749 wd_18 wd_105 wd_750 (by decide +kernel) rfl ⟨Nat.le_of_ble_eq_true rfl, Nat.le_of_ble_eq_true rfl⟩ ⟨rfl, rfl⟩ rfl (Nat.le_of_ble_eq_true rfl) dX4_tellAunt_134 ?_
  obtain ⟨hg, h⟩ := x_gd_some h
  obtain ⟨rfl, rfl⟩ := x_ret h
  exact x_zret C (x_isz_n hg) dX4_tellAunt_137
set_option maxHeartbeats 4000000 in
set_option maxRecDepth 100000 in
theorem w_X4_tellAunt_104 {r : Int32} {τ : x_Hp} (C : x_C p s m args meth c cX4_tellAunt 4 (some .boolean) yX4_tellAunt.cls TX G) (y1 : Int64) (s0 : Int32) (σ : x_Hp) (h : F_X4_tellAunt_104 y1 s0 σ = some (r, τ)) : x_W p l e rm_X4_tellAunt s m args below meth c (MQ below (x_Q TX G (some (.int r)) τ) args s 0 0 (x_A TX G)) TX G 4 104 [(0, .ref (x_ad G 14)), (1, .long y1)] [.int s0] σ := by
  have hG : x_OK TX G := C.2.2.2.2.2.2.2.2.1
  rw [F_X4_tellAunt_104] at h
  refine x_istore_n C [(3, .int s0), (0, .ref (x_ad G 14)), (1, .long y1)] dX4_tellAunt_104 rfl (by decide) rfl ?_
  refine x_iload_n C 0 dX4_tellAunt_105 rfl rfl ?_
  refine x_if_eq C 118 dX4_tellAunt_106 rfl (fun hc => ?_) (fun hc => ?_)
  · replace h := x_itp hc h
    exact x_sub [1, 2, 0] rfl (w_X4_tellAunt_118 C y1 s0 σ h)
  · replace h := x_itn hc h
    refine x_aload_n C 1 dX4_tellAunt_109 rfl rfl ?_
    obtain ⟨v11, σ11, hc11, h⟩ := x_b_some h
    refine x_callV C (n := 0) (c_X4_take hG hc11) kX_14 (by decide) rfl wd_731 wd_733 wd_15 wd_105 wd_734 (by decide +kernel) rfl ⟨Nat.le_of_ble_eq_true rfl, Nat.le_of_ble_eq_true rfl⟩ ⟨rfl, rfl⟩ rfl (Nat.le_of_ble_eq_true rfl) dX4_tellAunt_110 ?_
    refine x_if_ne C 118 dX4_tellAunt_113 rfl (fun hc => ?_) (fun hc => ?_)
    · replace h := x_itn hc h
      exact x_sub [1, 2, 0] rfl (w_X4_tellAunt_118 C y1 s0 σ11 h)
    · replace h := x_itp hc h
      refine x_iconst C (0 : Int32) dX4_tellAunt_116 (by decide) ?_
      obtain ⟨rfl, rfl⟩ := x_ret h
      exact x_zret C rfl dX4_tellAunt_117
set_option maxHeartbeats 4000000 in
set_option maxRecDepth 100000 in
theorem w_X4_tellAunt_57 {r : Int32} {τ : x_Hp} (C : x_C p s m args meth c cX4_tellAunt 4 (some .boolean) yX4_tellAunt.cls TX G) (y1 : Int64) (σ : x_Hp) (h : F_X4_tellAunt_57 y1 σ = some (r, τ)) : x_W p l e rm_X4_tellAunt s m args below meth c (MQ below (x_Q TX G (some (.int r)) τ) args s 0 0 (x_A TX G)) TX G 4 57 [(0, .ref (x_ad G 14)), (1, .long y1)] [] σ := by
  have hG : x_OK TX G := C.2.2.2.2.2.2.2.2.1
  rw [F_X4_tellAunt_57] at h
  refine x_aload_n C 0 dX4_tellAunt_57 rfl rfl ?_
  refine x_bipush C (30 : Int32) dX4_tellAunt_58 (by decide) ?_
  obtain ⟨v7, σ7, hc7, h⟩ := x_b_some h
  refine x_callV C (n := 1) (c_X4_take_ hG hc7) kX_14 (by decide) rfl wd_747 wd_749 wd_18 wd_105 wd_750 (by decide +kernel) rfl ⟨Nat.le_of_ble_eq_true rfl, Nat.le_of_ble_eq_true rfl⟩ ⟨rfl, rfl⟩ rfl (Nat.le_of_ble_eq_true rfl) dX4_tellAunt_60 ?_
  refine x_if_eq C 88 dX4_tellAunt_63 rfl (fun hc => ?_) (fun hc => ?_)
  · replace h := x_itp hc h
    refine x_iconst C (0 : Int32) dX4_tellAunt_88 (by decide) ?_
    obtain ⟨rfl, rfl⟩ := x_ret h
    exact x_zret C rfl dX4_tellAunt_89
  · replace h := x_itn hc h
    refine x_aload_n C 0 dX4_tellAunt_66 rfl rfl ?_
    refine x_iconst C (0 : Int32) dX4_tellAunt_67 (by decide) ?_
    refine x_iconst C (3 : Int32) dX4_tellAunt_68 (by decide) ?_
    refine x_bipush C (9 : Int32) dX4_tellAunt_69 (by decide) ?_
    obtain ⟨v8, σ8, hc8, h⟩ := x_b_some h
    refine x_callV C (n := 3) (c_X4_takeNumbers hG hc8) kX_14 (by decide) rfl wd_751 wd_753 wd_19 wd_105 wd_754 (by decide +kernel) rfl ⟨Nat.le_of_ble_eq_true rfl, Nat.le_of_ble_eq_true rfl⟩ ⟨rfl, rfl⟩ rfl (Nat.le_of_ble_eq_true rfl) dX4_tellAunt_71 ?_
    refine x_if_eq C 88 dX4_tellAunt_74 rfl (fun hc => ?_) (fun hc => ?_)
    · replace h := x_itp hc h
      refine x_iconst C (0 : Int32) dX4_tellAunt_88 (by decide) ?_
      obtain ⟨rfl, rfl⟩ := x_ret h
      exact x_zret C rfl dX4_tellAunt_89
    · replace h := x_itn hc h
      refine x_aload_n C 0 dX4_tellAunt_77 rfl rfl ?_
      refine x_iconst C (3 : Int32) dX4_tellAunt_78 (by decide) ?_
      refine x_iconst C (4 : Int32) dX4_tellAunt_79 (by decide) ?_
      refine x_bipush C (99 : Int32) dX4_tellAunt_80 (by decide) ?_
      obtain ⟨v9, σ9, hc9, h⟩ := x_b_some h
      refine x_callV C (n := 3) (c_X4_takeNumbers hG hc9) kX_14 (by decide) rfl wd_751 wd_753 wd_19 wd_105 wd_754 (by decide +kernel) rfl ⟨Nat.le_of_ble_eq_true rfl, Nat.le_of_ble_eq_true rfl⟩ ⟨rfl, rfl⟩ rfl (Nat.le_of_ble_eq_true rfl) dX4_tellAunt_82 ?_
      refine x_if_ne C 90 dX4_tellAunt_85 rfl (fun hc => ?_) (fun hc => ?_)
      · replace h := x_itn hc h
        refine x_aload_n C 0 dX4_tellAunt_90 rfl rfl ?_
        obtain ⟨v10, σ10, hc10, h⟩ := x_b_some h
        refine x_callV C (n := 0) (c_X4_kind hG hc10) kX_14 (by decide) rfl wd_714 wd_716 wd_11 wd_105 wd_717 (by decide +kernel) rfl ⟨Nat.le_of_ble_eq_true rfl, Nat.le_of_ble_eq_true rfl⟩ ⟨rfl, rfl⟩ rfl (Nat.le_of_ble_eq_true rfl) dX4_tellAunt_91 ?_
        refine x_bipush C (12 : Int32) dX4_tellAunt_94 (by decide) ?_
        refine x_icmp_ne C 103 dX4_tellAunt_96 rfl (fun hc => ?_) (fun hc => ?_)
        · replace h := x_itn hc h
          refine x_iconst C (0 : Int32) dX4_tellAunt_103 (by decide) ?_
          exact x_sub [0, 1] rfl (w_X4_tellAunt_104 C y1 (0 : Int32) σ10 h)
        · replace h := x_itp hc h
          refine x_iconst C (1 : Int32) dX4_tellAunt_99 (by decide) ?_
          refine x_goto C 104 dX4_tellAunt_100 rfl ?_
          exact x_sub [0, 1] rfl (w_X4_tellAunt_104 C y1 (1 : Int32) σ10 h)
      · replace h := x_itp hc h
        refine x_iconst C (0 : Int32) dX4_tellAunt_88 (by decide) ?_
        obtain ⟨rfl, rfl⟩ := x_ret h
        exact x_zret C rfl dX4_tellAunt_89
set_option maxHeartbeats 4000000 in
set_option maxRecDepth 100000 in
theorem c_X4_tellAunt (hG : x_OK TX G) {σ τ : x_Hp} {r : Int32} (h : F_X4_tellAunt σ = some (r, τ)) : x_M l TX G yX4_tellAunt cX4_tellAunt 4 (some .boolean) rm_X4_tellAunt [.ref (x_ad G 14)] σ (some (.int r)) τ := by
  refine x_M.of hG (lv := [(0, .ref (x_ad G 14))]) (by decide) (Nat.le_of_ble_eq_true rfl) rfl (fun p e s m below meth c C => ?_)
  rw [F_X4_tellAunt] at h
  refine x_aload_n C 0 dX4_tellAunt_0 rfl rfl ?_
  refine x_getRq C (k := 12) kX_14 (by decide) rfl x_in4 (by decide) (by decide) rfl rfl wd_258 rfX_14_12 dX4_tellAunt_1 ?_
  refine x_getI C (k := 7) kX_21 (by decide) rfl x_in6 (by decide) (by decide) rfl rfl wd_188 dX4_tellAunt_4 ?_
  refine x_bipush C (6 : Int32) dX4_tellAunt_7 (by decide) ?_
  refine x_icmp_lt C 18 dX4_tellAunt_9 rfl (fun hc => ?_) (fun hc => ?_)
  · replace h := x_itp hc h
    refine x_aload_n C 0 dX4_tellAunt_18 rfl rfl ?_
    obtain ⟨v1, σ1, hc1, h⟩ := x_b_some h
    refine x_callV C (n := 0) (c_X4_take hG hc1) kX_14 (by decide) rfl wd_731 wd_733 wd_15 wd_105 wd_734 (by decide +kernel) rfl ⟨Nat.le_of_ble_eq_true rfl, Nat.le_of_ble_eq_true rfl⟩ ⟨rfl, rfl⟩ rfl (Nat.le_of_ble_eq_true rfl) dX4_tellAunt_19 ?_
    refine x_if_ne C 27 dX4_tellAunt_22 rfl (fun hc => ?_) (fun hc => ?_)
    · replace h := x_itn hc h
      refine x_aload_n C 0 dX4_tellAunt_27 rfl rfl ?_
      obtain ⟨v2, σ2, hc2, h⟩ := x_b_some h
      refine x_callV C (n := 0) (c_X4_worth hG hc2) kX_14 (by decide) rfl wd_735 wd_737 wd_16 wd_105 wd_738 (by decide +kernel) rfl ⟨Nat.le_of_ble_eq_true rfl, Nat.le_of_ble_eq_true rfl⟩ ⟨rfl, rfl⟩ rfl (Nat.le_of_ble_eq_true rfl) dX4_tellAunt_28 ?_
      refine x_lstore_n C [(1, .long v2), (0, .ref (x_ad G 14))] dX4_tellAunt_31 rfl (by decide) rfl ?_
      refine x_aload_n C 1 dX4_tellAunt_32 rfl rfl ?_
      obtain ⟨v3, σ3, hc3, h⟩ := x_b_some h
      refine x_callV C (n := 0) (c_X4_kind hG hc3) kX_14 (by decide) rfl wd_714 wd_716 wd_11 wd_105 wd_717 (by decide +kernel) rfl ⟨Nat.le_of_ble_eq_true rfl, Nat.le_of_ble_eq_true rfl⟩ ⟨rfl, rfl⟩ rfl (Nat.le_of_ble_eq_true rfl) dX4_tellAunt_33 ?_
      refine x_bipush C (30 : Int32) dX4_tellAunt_36 (by decide) ?_
      refine x_icmp_ne C 57 dX4_tellAunt_38 rfl (fun hc => ?_) (fun hc => ?_)
      · replace h := x_itn hc h
        exact x_sub [1, 0] rfl (w_X4_tellAunt_57 C v2 σ3 h)
      · replace h := x_itp hc h
        refine x_aload_n C 1 dX4_tellAunt_41 rfl rfl ?_
        refine x_getRq C (k := 12) kX_14 (by decide) rfl x_in4 (by decide) (by decide) rfl rfl wd_258 rfX_14_12 dX4_tellAunt_42 ?_
        refine x_lload_n C 0 dX4_tellAunt_45 rfl rfl ?_
        obtain ⟨v4, σ4, hc4, h⟩ := x_b_some h
        refine x_callV C (n := 1) (c_X6_knows hG kX_21 hc4) kX_21 (by decide) rfl wd_739 wd_740 wd_741 wd_103 wd_742 (by decide +kernel) rfl ⟨Nat.le_of_ble_eq_true rfl, Nat.le_of_ble_eq_true rfl⟩ ⟨rfl, rfl⟩ rfl (Nat.le_of_ble_eq_true rfl) dX4_tellAunt_46 ?_
        refine x_if_eq C 57 dX4_tellAunt_49 rfl (fun hc => ?_) (fun hc => ?_)
        · replace h := x_itp hc h
          exact x_sub [1, 0] rfl (w_X4_tellAunt_57 C v2 σ4 h)
        · replace h := x_itn hc h
          refine x_aload_n C 1 dX4_tellAunt_52 rfl rfl ?_
          refine x_iconst C (3 : Int32) dX4_tellAunt_53 (by decide) ?_
          obtain ⟨v5, σ5, hc5, h⟩ := x_b_some h
          refine x_callV C (n := 1) (c_X4_note hG hc5) kX_14 (by decide) rfl wd_743 wd_745 wd_17 wd_105 wd_746 (by decide +kernel) rfl ⟨Nat.le_of_ble_eq_true rfl, Nat.le_of_ble_eq_true rfl⟩ ⟨rfl, rfl⟩ rfl (Nat.le_of_ble_eq_true rfl) dX4_tellAunt_54 ?_
          exact x_sub [1, 0] rfl (w_X4_tellAunt_57 C v2 σ5 h)
    · replace h := x_itp hc h
      refine x_iconst C (0 : Int32) dX4_tellAunt_25 (by decide) ?_
      obtain ⟨rfl, rfl⟩ := x_ret h
      exact x_zret C rfl dX4_tellAunt_26
  · replace h := x_itn hc h
    refine x_aload_n C 0 dX4_tellAunt_12 rfl rfl ?_
    refine x_iconst C (2 : Int32) dX4_tellAunt_13 (by decide) ?_
    obtain ⟨v6, σ6, hc6, h⟩ := x_b_some h
    refine x_callV C (n := 1) (c_X4_fail hG hc6) kX_14 (by decide) rfl wd_727 wd_729 wd_14 wd_105 wd_730 (by decide +kernel) rfl ⟨Nat.le_of_ble_eq_true rfl, Nat.le_of_ble_eq_true rfl⟩ ⟨rfl, rfl⟩ rfl (Nat.le_of_ble_eq_true rfl) dX4_tellAunt_14 ?_
    obtain ⟨hg, h⟩ := x_gd_some h
    obtain ⟨rfl, rfl⟩ := x_ret h
    exact x_zret C (x_isz_n hg) dX4_tellAunt_17
abbrev rm_X6_tellBaby : Room := { frames := 0, cells := 0, slots := 0, locals := 0 }
set_option maxHeartbeats 4000000 in
set_option maxRecDepth 100000 in
theorem c_X6_tellBaby (hG : x_OK TX G) {o : Nat} {x1 : Int32} {x2 : Int32} {x3 : Int32} {x4 : Int32} {σ τ : x_Hp} (hk_o : x_kd TX o = 6) (h : F_X6_tellBaby o x1 x2 x3 x4 σ = some ((), τ)) : x_M l TX G yX6_tellBaby cX6_tellBaby 5 none rm_X6_tellBaby [.ref (x_ad G o), .int x1, .int x2, .int x3, .int x4] σ none τ := by
  refine x_M.of hG (lv := [(0, .ref (x_ad G o)), (1, .int x1), (2, .int x2), (3, .int x3), (4, .int x4)]) (by decide) (Nat.le_of_ble_eq_true rfl) rfl (fun p e s m below meth c C => ?_)
  rw [F_X6_tellBaby] at h
  refine x_aload_n C 0 dX6_tellBaby_0 rfl rfl ?_
  refine x_iload_n C 1 dX6_tellBaby_1 rfl rfl ?_
  refine x_putI C (k := 0) tyX6 hk_o (by decide) rfl x_in6 tyX6_ok nmX6 (by decide) (by decide) rfl rfl wd_165 rfl (tyX6_ok 0 (by decide)) rfl rfl dX6_tellBaby_2 (x_gen h fun σ1 h => ?_)
  refine x_aload_n C 0 dX6_tellBaby_5 rfl rfl ?_
  refine x_iload_n C 2 dX6_tellBaby_6 rfl rfl ?_
  refine x_putI C (k := 1) tyX6 hk_o (by decide) rfl x_in6 tyX6_ok nmX6 (by decide) (by decide) rfl rfl wd_167 rfl (tyX6_ok 1 (by decide)) rfl rfl dX6_tellBaby_7 (x_gen h fun σ2 h => ?_)
  refine x_aload_n C 0 dX6_tellBaby_10 rfl rfl ?_
  refine x_iload_n C 3 dX6_tellBaby_11 rfl rfl ?_
  refine x_putI C (k := 2) tyX6 hk_o (by decide) rfl x_in6 tyX6_ok nmX6 (by decide) (by decide) rfl rfl wd_169 rfl (tyX6_ok 2 (by decide)) rfl rfl dX6_tellBaby_12 (x_gen h fun σ3 h => ?_)
  refine x_aload_n C 0 dX6_tellBaby_15 rfl rfl ?_
  refine x_iload C 4 dX6_tellBaby_16 rfl ?_
  refine x_putI C (k := 3) tyX6 hk_o (by decide) rfl x_in6 tyX6_ok nmX6 (by decide) (by decide) rfl rfl wd_171 rfl (tyX6_ok 3 (by decide)) rfl rfl dX6_tellBaby_18 (x_gen h fun σ4 h => ?_)
  obtain ⟨-, rfl⟩ := x_ret h
  exact x_vret C dX6_tellBaby_21
abbrev rm_X4_tellBaby : Room := { frames := 4, cells := 0, slots := 0, locals := 87 }
set_option maxHeartbeats 4000000 in
set_option maxRecDepth 100000 in
theorem w_X4_tellBaby_32 {r : Int32} {τ : x_Hp} (C : x_C p s m args meth c cX4_tellBaby 2 (some .boolean) yX4_tellBaby.cls TX G) (s0 : Int32) (σ : x_Hp) (h : F_X4_tellBaby_32 s0 σ = some (r, τ)) : x_W p l e rm_X4_tellBaby s m args below meth c (MQ below (x_Q TX G (some (.int r)) τ) args s 0 0 (x_A TX G)) TX G 2 32 [(0, .ref (x_ad G 14))] [.int s0] σ := by
  have hG : x_OK TX G := C.2.2.2.2.2.2.2.2.1
  rw [F_X4_tellBaby_32] at h
  refine x_istore_n C [(1, .int s0), (0, .ref (x_ad G 14))] dX4_tellBaby_32 rfl (by decide) rfl ?_
  refine x_aload_n C 1 dX4_tellBaby_33 rfl rfl ?_
  refine x_getRq C (k := 12) kX_14 (by decide) rfl x_in4 (by decide) (by decide) rfl rfl wd_258 rfX_14_12 dX4_tellBaby_34 ?_
  refine x_aload_n C 1 dX4_tellBaby_37 rfl rfl ?_
  refine x_getRq C (k := 7) kX_14 (by decide) rfl x_in4 (by decide) (by decide) rfl rfl wd_252 rfX_14_7 dX4_tellBaby_38 ?_
  refine x_iconst C (0 : Int32) dX4_tellBaby_41 (by decide) ?_
  obtain ⟨v4, σ4, hc4, h⟩ := x_b_some h
  refine x_callSN C (n := 2) (c_X8_at hG kX_19 hc4) nw_718 wd_541 wd_102 wd_542 (by decide +kernel) rfl ⟨Nat.le_of_ble_eq_true rfl, Nat.le_of_ble_eq_true rfl⟩ ⟨rfl, rfl⟩ rfl (Nat.le_of_ble_eq_true rfl) dX4_tellBaby_42 ?_
  refine x_aload_n C 1 dX4_tellBaby_45 rfl rfl ?_
  refine x_getRq C (k := 7) kX_14 (by decide) rfl x_in4 (by decide) (by decide) rfl rfl wd_252 rfX_14_7 dX4_tellBaby_46 ?_
  refine x_iconst C (1 : Int32) dX4_tellBaby_49 (by decide) ?_
  obtain ⟨v5, σ5, hc5, h⟩ := x_b_some h
  refine x_callSN C (n := 2) (c_X8_at hG kX_19 hc5) nw_718 wd_541 wd_102 wd_542 (by decide +kernel) rfl ⟨Nat.le_of_ble_eq_true rfl, Nat.le_of_ble_eq_true rfl⟩ ⟨rfl, rfl⟩ rfl (Nat.le_of_ble_eq_true rfl) dX4_tellBaby_50 ?_
  refine x_aload_n C 1 dX4_tellBaby_53 rfl rfl ?_
  refine x_getRq C (k := 7) kX_14 (by decide) rfl x_in4 (by decide) (by decide) rfl rfl wd_252 rfX_14_7 dX4_tellBaby_54 ?_
  refine x_iconst C (2 : Int32) dX4_tellBaby_57 (by decide) ?_
  obtain ⟨v6, σ6, hc6, h⟩ := x_b_some h
  refine x_callSN C (n := 2) (c_X8_at hG kX_19 hc6) nw_718 wd_541 wd_102 wd_542 (by decide +kernel) rfl ⟨Nat.le_of_ble_eq_true rfl, Nat.le_of_ble_eq_true rfl⟩ ⟨rfl, rfl⟩ rfl (Nat.le_of_ble_eq_true rfl) dX4_tellBaby_58 ?_
  refine x_aload_n C 1 dX4_tellBaby_61 rfl rfl ?_
  refine x_getRq C (k := 7) kX_14 (by decide) rfl x_in4 (by decide) (by decide) rfl rfl wd_252 rfX_14_7 dX4_tellBaby_62 ?_
  refine x_iconst C (3 : Int32) dX4_tellBaby_65 (by decide) ?_
  obtain ⟨v7, σ7, hc7, h⟩ := x_b_some h
  refine x_callSN C (n := 2) (c_X8_at hG kX_19 hc7) nw_718 wd_541 wd_102 wd_542 (by decide +kernel) rfl ⟨Nat.le_of_ble_eq_true rfl, Nat.le_of_ble_eq_true rfl⟩ ⟨rfl, rfl⟩ rfl (Nat.le_of_ble_eq_true rfl) dX4_tellBaby_66 ?_
  obtain ⟨v8, σ8, hc8, h⟩ := x_b_some h
  refine x_callV C (n := 4) (c_X6_tellBaby hG kX_21 hc8) kX_21 (by decide) rfl wd_765 wd_510 wd_511 wd_103 wd_512 (by decide +kernel) rfl ⟨Nat.le_of_ble_eq_true rfl, Nat.le_of_ble_eq_true rfl⟩ ⟨rfl, rfl⟩ rfl (Nat.le_of_ble_eq_true rfl) dX4_tellBaby_69 ?_
  refine x_iload_n C 0 dX4_tellBaby_72 rfl rfl ?_
  obtain ⟨hg, h⟩ := x_gd_some h
  obtain ⟨rfl, rfl⟩ := x_ret h
  exact x_zret C (x_isz_n hg) dX4_tellBaby_73
set_option maxHeartbeats 4000000 in
set_option maxRecDepth 100000 in
theorem w_X4_tellBaby_31 {r : Int32} {τ : x_Hp} (C : x_C p s m args meth c cX4_tellBaby 2 (some .boolean) yX4_tellBaby.cls TX G) (σ : x_Hp) (h : F_X4_tellBaby_31 σ = some (r, τ)) : x_W p l e rm_X4_tellBaby s m args below meth c (MQ below (x_Q TX G (some (.int r)) τ) args s 0 0 (x_A TX G)) TX G 2 31 [(0, .ref (x_ad G 14))] [] σ := by
  have hG : x_OK TX G := C.2.2.2.2.2.2.2.2.1
  rw [F_X4_tellBaby_31] at h
  refine x_iconst C (0 : Int32) dX4_tellBaby_31 (by decide) ?_
  exact x_sub [0] rfl (w_X4_tellBaby_32 C (0 : Int32) σ h)
set_option maxHeartbeats 4000000 in
set_option maxRecDepth 100000 in
theorem c_X4_tellBaby (hG : x_OK TX G) {σ τ : x_Hp} {r : Int32} (h : F_X4_tellBaby σ = some (r, τ)) : x_M l TX G yX4_tellBaby cX4_tellBaby 2 (some .boolean) rm_X4_tellBaby [.ref (x_ad G 14)] σ (some (.int r)) τ := by
  refine x_M.of hG (lv := [(0, .ref (x_ad G 14))]) (by decide) (Nat.le_of_ble_eq_true rfl) rfl (fun p e s m below meth c C => ?_)
  rw [F_X4_tellBaby] at h
  refine x_aload_n C 0 dX4_tellBaby_0 rfl rfl ?_
  obtain ⟨v1, σ1, hc1, h⟩ := x_b_some h
  refine x_callV C (n := 0) (c_X4_take hG hc1) kX_14 (by decide) rfl wd_731 wd_733 wd_15 wd_105 wd_734 (by decide +kernel) rfl ⟨Nat.le_of_ble_eq_true rfl, Nat.le_of_ble_eq_true rfl⟩ ⟨rfl, rfl⟩ rfl (Nat.le_of_ble_eq_true rfl) dX4_tellBaby_1 ?_
  refine x_if_eq C 31 dX4_tellBaby_4 rfl (fun hc => ?_) (fun hc => ?_)
  · replace h := x_itp hc h
    exact x_sub [0] rfl (w_X4_tellBaby_31 C σ1 h)
  · replace h := x_itn hc h
    refine x_aload_n C 0 dX4_tellBaby_7 rfl rfl ?_
    refine x_iconst C (0 : Int32) dX4_tellBaby_8 (by decide) ?_
    refine x_iconst C (4 : Int32) dX4_tellBaby_9 (by decide) ?_
    refine x_bipush C (99 : Int32) dX4_tellBaby_10 (by decide) ?_
    obtain ⟨v2, σ2, hc2, h⟩ := x_b_some h
    refine x_callV C (n := 3) (c_X4_takeNumbers hG hc2) kX_14 (by decide) rfl wd_751 wd_753 wd_19 wd_105 wd_754 (by decide +kernel) rfl ⟨Nat.le_of_ble_eq_true rfl, Nat.le_of_ble_eq_true rfl⟩ ⟨rfl, rfl⟩ rfl (Nat.le_of_ble_eq_true rfl) dX4_tellBaby_12 ?_
    refine x_if_eq C 31 dX4_tellBaby_15 rfl (fun hc => ?_) (fun hc => ?_)
    · replace h := x_itp hc h
      exact x_sub [0] rfl (w_X4_tellBaby_31 C σ2 h)
    · replace h := x_itn hc h
      refine x_aload_n C 0 dX4_tellBaby_18 rfl rfl ?_
      refine x_bipush C (59 : Int32) dX4_tellBaby_19 (by decide) ?_
      obtain ⟨v3, σ3, hc3, h⟩ := x_b_some h
      refine x_callV C (n := 1) (c_X4_take_ hG hc3) kX_14 (by decide) rfl wd_747 wd_749 wd_18 wd_105 wd_750 (by decide +kernel) rfl ⟨Nat.le_of_ble_eq_true rfl, Nat.le_of_ble_eq_true rfl⟩ ⟨rfl, rfl⟩ rfl (Nat.le_of_ble_eq_true rfl) dX4_tellBaby_21 ?_
      refine x_if_eq C 31 dX4_tellBaby_24 rfl (fun hc => ?_) (fun hc => ?_)
      · replace h := x_itp hc h
        exact x_sub [0] rfl (w_X4_tellBaby_31 C σ3 h)
      · replace h := x_itn hc h
        refine x_iconst C (1 : Int32) dX4_tellBaby_27 (by decide) ?_
        refine x_goto C 32 dX4_tellBaby_28 rfl ?_
        exact x_sub [0] rfl (w_X4_tellBaby_32 C (1 : Int32) σ3 h)
abbrev rm_X4_addUnit : Room := { frames := 2, cells := 0, slots := 0, locals := 43 }
set_option maxHeartbeats 4000000 in
set_option maxRecDepth 100000 in
theorem c_X4_addUnit (hG : x_OK TX G) {x1 : Int32} {σ τ : x_Hp} {r : Int32} (h : F_X4_addUnit x1 σ = some (r, τ)) : x_M l TX G yX4_addUnit cX4_addUnit 2 (some .boolean) rm_X4_addUnit [.ref (x_ad G 14), .int x1] σ (some (.int r)) τ := by
  refine x_M.of hG (lv := [(0, .ref (x_ad G 14)), (1, .int x1)]) (by decide) (Nat.le_of_ble_eq_true rfl) rfl (fun p e s m below meth c C => ?_)
  rw [F_X4_addUnit] at h
  refine x_iload_n C 1 dX4_addUnit_0 rfl rfl ?_
  refine x_bipush C (31 : Int32) dX4_addUnit_1 (by decide) ?_
  refine x_icmp_ne C 23 dX4_addUnit_3 rfl (fun hc => ?_) (fun hc => ?_)
  · replace h := x_itn hc h
    refine x_iload_n C 1 dX4_addUnit_23 rfl rfl ?_
    refine x_bipush C (16 : Int32) dX4_addUnit_24 (by decide) ?_
    refine x_icmp_lt C 55 dX4_addUnit_26 rfl (fun hc => ?_) (fun hc => ?_)
    · replace h := x_itp hc h
      refine x_iconst C (0 : Int32) dX4_addUnit_55 (by decide) ?_
      obtain ⟨rfl, rfl⟩ := x_ret h
      exact x_zret C rfl dX4_addUnit_56
    · replace h := x_itn hc h
      refine x_iload_n C 1 dX4_addUnit_29 rfl rfl ?_
      refine x_bipush C (24 : Int32) dX4_addUnit_30 (by decide) ?_
      refine x_icmp_gt C 55 dX4_addUnit_32 rfl (fun hc => ?_) (fun hc => ?_)
      · replace h := x_itp hc h
        refine x_iconst C (0 : Int32) dX4_addUnit_55 (by decide) ?_
        obtain ⟨rfl, rfl⟩ := x_ret h
        exact x_zret C rfl dX4_addUnit_56
      · replace h := x_itn hc h
        refine x_aload_n C 0 dX4_addUnit_35 rfl rfl ?_
        refine x_getRq C (k := 12) kX_14 (by decide) rfl x_in4 (by decide) (by decide) rfl rfl wd_258 rfX_14_12 dX4_addUnit_36 ?_
        refine x_getRq C (k := 14) kX_21 (by decide) rfl x_in6 (by decide) (by decide) rfl rfl wd_204 rfX_21_14 dX4_addUnit_39 ?_
        refine x_sipush C (10000 : Int32) dX4_addUnit_42 (by decide) ?_
        refine x_iload_n C 1 dX4_addUnit_45 rfl rfl ?_
        refine x_iadd C dX4_addUnit_46 ?_
        refine x_bipush C (16 : Int32) dX4_addUnit_47 (by decide) ?_
        refine x_isub C dX4_addUnit_49 ?_
        obtain ⟨v1, σ1, hc1, h⟩ := x_b_some h
        refine x_callV C (n := 1) (c_X1_addStep hG kX_28 hc1) kX_28 (by decide) rfl wd_783 wd_525 wd_526 wd_104 wd_527 (by decide +kernel) rfl ⟨Nat.le_of_ble_eq_true rfl, Nat.le_of_ble_eq_true rfl⟩ ⟨rfl, rfl⟩ rfl (Nat.le_of_ble_eq_true rfl) dX4_addUnit_50 ?_
        refine x_iconst C (1 : Int32) dX4_addUnit_53 (by decide) ?_
        obtain ⟨rfl, rfl⟩ := x_ret h
        exact x_zret C rfl dX4_addUnit_54
  · replace h := x_itp hc h
    refine x_aload_n C 0 dX4_addUnit_6 rfl rfl ?_
    refine x_getRq C (k := 12) kX_14 (by decide) rfl x_in4 (by decide) (by decide) rfl rfl wd_258 rfX_14_12 dX4_addUnit_7 ?_
    refine x_getRq C (k := 14) kX_21 (by decide) rfl x_in6 (by decide) (by decide) rfl rfl wd_204 rfX_21_14 dX4_addUnit_10 ?_
    refine x_aload_n C 0 dX4_addUnit_13 rfl rfl ?_
    obtain ⟨v2, σ2, hc2, h⟩ := x_b_some h
    refine x_callV C (n := 0) (c_X4_worth hG hc2) kX_14 (by decide) rfl wd_735 wd_737 wd_16 wd_105 wd_738 (by decide +kernel) rfl ⟨Nat.le_of_ble_eq_true rfl, Nat.le_of_ble_eq_true rfl⟩ ⟨rfl, rfl⟩ rfl (Nat.le_of_ble_eq_true rfl) dX4_addUnit_14 ?_
    refine x_l2i C dX4_addUnit_17 ?_
    obtain ⟨v3, σ3, hc3, h⟩ := x_b_some h
    refine x_callV C (n := 1) (c_X1_addStep hG kX_28 hc3) kX_28 (by decide) rfl wd_783 wd_525 wd_526 wd_104 wd_527 (by decide +kernel) rfl ⟨Nat.le_of_ble_eq_true rfl, Nat.le_of_ble_eq_true rfl⟩ ⟨rfl, rfl⟩ rfl (Nat.le_of_ble_eq_true rfl) dX4_addUnit_18 ?_
    refine x_iconst C (1 : Int32) dX4_addUnit_21 (by decide) ?_
    obtain ⟨rfl, rfl⟩ := x_ret h
    exact x_zret C rfl dX4_addUnit_22
abbrev rm_X4_addWaiting : Room := { frames := 1, cells := 0, slots := 0, locals := 22 }
set_option maxHeartbeats 4000000 in
set_option maxRecDepth 100000 in
theorem c_X4_addWaiting (hG : x_OK TX G) {x1 : Int32} {σ τ : x_Hp} (h : F_X4_addWaiting x1 σ = some ((), τ)) : x_M l TX G yX4_addWaiting cX4_addWaiting 2 none rm_X4_addWaiting [.ref (x_ad G 14), .int x1] σ none τ := by
  refine x_M.of hG (lv := [(0, .ref (x_ad G 14)), (1, .int x1)]) (by decide) (Nat.le_of_ble_eq_true rfl) rfl (fun p e s m below meth c C => ?_)
  rw [F_X4_addWaiting] at h
  refine x_aload_n C 0 dX4_addWaiting_0 rfl rfl ?_
  refine x_getRq C (k := 8) kX_14 (by decide) rfl x_in4 (by decide) (by decide) rfl rfl wd_253 rfX_14_8 dX4_addWaiting_1 ?_
  refine x_aload_n C 0 dX4_addWaiting_4 rfl rfl ?_
  refine x_getI C (k := 9) kX_14 (by decide) rfl x_in4 (by decide) (by decide) rfl rfl wd_254 dX4_addWaiting_5 ?_
  refine x_iload_n C 1 dX4_addWaiting_8 rfl rfl ?_
  obtain ⟨v1, σ1, hc1, h⟩ := x_b_some h
  refine x_callSN C (n := 3) (c_X8_put hG kX_20 hc1) nw_648 wd_522 wd_102 wd_523 (by decide +kernel) rfl ⟨Nat.le_of_ble_eq_true rfl, Nat.le_of_ble_eq_true rfl⟩ ⟨rfl, rfl⟩ rfl (Nat.le_of_ble_eq_true rfl) dX4_addWaiting_9 ?_
  refine x_aload_n C 0 dX4_addWaiting_12 rfl rfl ?_
  refine x_dup C dX4_addWaiting_13 rfl ?_
  refine x_getI C (k := 9) kX_14 (by decide) rfl x_in4 (by decide) (by decide) rfl rfl wd_254 dX4_addWaiting_14 ?_
  refine x_iconst C (1 : Int32) dX4_addWaiting_17 (by decide) ?_
  refine x_iadd C dX4_addWaiting_18 ?_
  refine x_putI C (k := 9) tyX4 kX_14 (by decide) rfl x_in4 tyX4_ok nmX4 (by decide) (by decide) rfl rfl wd_254 rfl (tyX4_ok 9 (by decide)) rfl rfl dX4_addWaiting_19 (x_gen h fun σ2 h => ?_)
  obtain ⟨-, rfl⟩ := x_ret h
  exact x_vret C dX4_addWaiting_22
abbrev rm_X4_rank : Room := { frames := 0, cells := 0, slots := 0, locals := 0 }
set_option maxHeartbeats 4000000 in
set_option maxRecDepth 100000 in
theorem c_X4_rank (hG : x_OK TX G) {x0 : Int32} {σ τ : x_Hp} {r : Int32} (h : F_X4_rank x0 σ = some (r, τ)) : x_M l TX G yX4_rank cX4_rank 1 (some .int) rm_X4_rank [.int x0] σ (some (.int r)) τ := by
  refine x_M.of hG (lv := [(0, .int x0)]) (by decide) (Nat.le_of_ble_eq_true rfl) rfl (fun p e s m below meth c C => ?_)
  rw [F_X4_rank] at h
  refine x_iload_n C 0 dX4_rank_0 rfl rfl ?_
  refine x_bipush C (40 : Int32) dX4_rank_1 (by decide) ?_
  refine x_icmp_ne C 8 dX4_rank_3 rfl (fun hc => ?_) (fun hc => ?_)
  · replace h := x_itn hc h
    refine x_iload_n C 0 dX4_rank_8 rfl rfl ?_
    refine x_bipush C (42 : Int32) dX4_rank_9 (by decide) ?_
    refine x_icmp_eq C 20 dX4_rank_11 rfl (fun hc => ?_) (fun hc => ?_)
    · replace h := x_itp hc h
      refine x_iconst C (2 : Int32) dX4_rank_20 (by decide) ?_
      refine x_goto C 25 dX4_rank_21 rfl ?_
      obtain ⟨rfl, rfl⟩ := x_ret h
      exact x_iret C dX4_rank_25
    · replace h := x_itn hc h
      refine x_iload_n C 0 dX4_rank_14 rfl rfl ?_
      refine x_bipush C (47 : Int32) dX4_rank_15 (by decide) ?_
      refine x_icmp_ne C 24 dX4_rank_17 rfl (fun hc => ?_) (fun hc => ?_)
      · replace h := x_itn hc h
        refine x_iconst C (1 : Int32) dX4_rank_24 (by decide) ?_
        obtain ⟨rfl, rfl⟩ := x_ret h
        exact x_iret C dX4_rank_25
      · replace h := x_itp hc h
        refine x_iconst C (2 : Int32) dX4_rank_20 (by decide) ?_
        refine x_goto C 25 dX4_rank_21 rfl ?_
        obtain ⟨rfl, rfl⟩ := x_ret h
        exact x_iret C dX4_rank_25
  · replace h := x_itp hc h
    refine x_iconst C (0 : Int32) dX4_rank_6 (by decide) ?_
    obtain ⟨rfl, rfl⟩ := x_ret h
    exact x_iret C dX4_rank_7
abbrev rm_X4_endWaiting : Room := { frames := 2, cells := 0, slots := 0, locals := 43 }
set_option maxHeartbeats 4000000 in
set_option maxRecDepth 100000 in
theorem w_X4_endWaiting_0 {τ : x_Hp} (C : x_C p s m args meth c cX4_endWaiting 2 none yX4_endWaiting.cls TX G) : ∀ (n : Nat) (x1 : Int32) (σ : x_Hp) (h : F_X4_endWaiting_0 n x1 σ = some ((), τ)), x_W p l e rm_X4_endWaiting s m args below meth c (MQ below (x_Q TX G none τ) args s 0 0 (x_A TX G)) TX G 2 0 [(0, .ref (x_ad G 14)), (1, .int x1)] [] σ := by
  intro n
  induction n with
  | zero => intro x1 σ  h; cases h
  | succ n ih =>
    intro x1 σ  h
    have hG : x_OK TX G := C.2.2.2.2.2.2.2.2.1
    rw [F_X4_endWaiting_0] at h
    refine x_aload_n C 0 dX4_endWaiting_0 rfl rfl ?_
    refine x_getI C (k := 9) kX_14 (by decide) rfl x_in4 (by decide) (by decide) rfl rfl wd_254 dX4_endWaiting_1 ?_
    refine x_if_le C 65 dX4_endWaiting_4 rfl (fun hc => ?_) (fun hc => ?_)
    · replace h := x_itp hc h
      obtain ⟨-, rfl⟩ := x_ret h
      exact x_vret C dX4_endWaiting_65
    · replace h := x_itn hc h
      refine x_aload_n C 0 dX4_endWaiting_7 rfl rfl ?_
      refine x_getRq C (k := 8) kX_14 (by decide) rfl x_in4 (by decide) (by decide) rfl rfl wd_253 rfX_14_8 dX4_endWaiting_8 ?_
      refine x_aload_n C 0 dX4_endWaiting_11 rfl rfl ?_
      refine x_getI C (k := 9) kX_14 (by decide) rfl x_in4 (by decide) (by decide) rfl rfl wd_254 dX4_endWaiting_12 ?_
      refine x_iconst C (1 : Int32) dX4_endWaiting_15 (by decide) ?_
      refine x_isub C dX4_endWaiting_16 ?_
      obtain ⟨v1, σ1, hc1, h⟩ := x_b_some h
      refine x_callSN C (n := 2) (c_X8_at hG kX_20 hc1) nw_718 wd_541 wd_102 wd_542 (by decide +kernel) rfl ⟨Nat.le_of_ble_eq_true rfl, Nat.le_of_ble_eq_true rfl⟩ ⟨rfl, rfl⟩ rfl (Nat.le_of_ble_eq_true rfl) dX4_endWaiting_17 ?_
      obtain ⟨v2, σ2, hc2, h⟩ := x_b_some h
      refine x_callS C (n := 1) (c_X4_rank hG hc2) wd_784 wd_785 wd_105 wd_786 (by decide +kernel) rfl ⟨Nat.le_of_ble_eq_true rfl, Nat.le_of_ble_eq_true rfl⟩ ⟨rfl, rfl⟩ rfl (Nat.le_of_ble_eq_true rfl) dX4_endWaiting_20 ?_
      refine x_iload_n C 1 dX4_endWaiting_23 rfl rfl ?_
      refine x_icmp_lt C 65 dX4_endWaiting_24 rfl (fun hc => ?_) (fun hc => ?_)
      · replace h := x_itp hc h
        obtain ⟨-, rfl⟩ := x_ret h
        exact x_vret C dX4_endWaiting_65
      · replace h := x_itn hc h
        refine x_aload_n C 0 dX4_endWaiting_27 rfl rfl ?_
        refine x_dup C dX4_endWaiting_28 rfl ?_
        refine x_getI C (k := 9) kX_14 (by decide) rfl x_in4 (by decide) (by decide) rfl rfl wd_254 dX4_endWaiting_29 ?_
        refine x_iconst C (1 : Int32) dX4_endWaiting_32 (by decide) ?_
        refine x_isub C dX4_endWaiting_33 ?_
        refine x_putI C (k := 9) tyX4 kX_14 (by decide) rfl x_in4 tyX4_ok nmX4 (by decide) (by decide) rfl rfl wd_254 rfl (tyX4_ok 9 (by decide)) rfl rfl dX4_endWaiting_34 (x_gen h fun σ3 h => ?_)
        refine x_aload_n C 0 dX4_endWaiting_37 rfl rfl ?_
        refine x_getRq C (k := 12) kX_14 (by decide) rfl x_in4 (by decide) (by decide) rfl rfl wd_258 rfX_14_12 dX4_endWaiting_38 ?_
        refine x_getRq C (k := 14) kX_21 (by decide) rfl x_in6 (by decide) (by decide) rfl rfl wd_204 rfX_21_14 dX4_endWaiting_41 ?_
        refine x_sipush C (20000 : Int32) dX4_endWaiting_44 (by decide) ?_
        refine x_aload_n C 0 dX4_endWaiting_47 rfl rfl ?_
        refine x_getRq C (k := 8) kX_14 (by decide) rfl x_in4 (by decide) (by decide) rfl rfl wd_253 rfX_14_8 dX4_endWaiting_48 ?_
        refine x_aload_n C 0 dX4_endWaiting_51 rfl rfl ?_
        refine x_getI C (k := 9) kX_14 (by decide) rfl x_in4 (by decide) (by decide) rfl rfl wd_254 dX4_endWaiting_52 ?_
        obtain ⟨v4, σ4, hc4, h⟩ := x_b_some h
        refine x_callSN C (n := 2) (c_X8_at hG kX_20 hc4) nw_718 wd_541 wd_102 wd_542 (by decide +kernel) rfl ⟨Nat.le_of_ble_eq_true rfl, Nat.le_of_ble_eq_true rfl⟩ ⟨rfl, rfl⟩ rfl (Nat.le_of_ble_eq_true rfl) dX4_endWaiting_55 ?_
        refine x_iadd C dX4_endWaiting_58 ?_
        obtain ⟨v5, σ5, hc5, h⟩ := x_b_some h
        refine x_callV C (n := 1) (c_X1_addStep hG kX_28 hc5) kX_28 (by decide) rfl wd_783 wd_525 wd_526 wd_104 wd_527 (by decide +kernel) rfl ⟨Nat.le_of_ble_eq_true rfl, Nat.le_of_ble_eq_true rfl⟩ ⟨rfl, rfl⟩ rfl (Nat.le_of_ble_eq_true rfl) dX4_endWaiting_59 ?_
        refine x_goto C 0 dX4_endWaiting_62 rfl ?_
        exact x_sub [0, 1] rfl (ih x1 σ5 h)
set_option maxHeartbeats 4000000 in
set_option maxRecDepth 100000 in
theorem c_X4_endWaiting (hG : x_OK TX G) {x1 : Int32} {σ τ : x_Hp} (h : F_X4_endWaiting x1 σ = some ((), τ)) : x_M l TX G yX4_endWaiting cX4_endWaiting 2 none rm_X4_endWaiting [.ref (x_ad G 14), .int x1] σ none τ := by
  refine x_M.of hG (lv := [(0, .ref (x_ad G 14)), (1, .int x1)]) (by decide) (Nat.le_of_ble_eq_true rfl) rfl (fun p e s m below meth c C => ?_)
  rw [F_X4_endWaiting] at h
  exact x_sub [0, 1] rfl (w_X4_endWaiting_0 C x_fuel x1 σ h)
abbrev rm_X4_takePiece : Room := { frames := 3, cells := 0, slots := 0, locals := 64 }
set_option maxHeartbeats 4000000 in
set_option maxRecDepth 100000 in
theorem w_X4_takePiece_184 {r : Int32} {τ : x_Hp} (C : x_C p s m args meth c cX4_takePiece 7 (some .boolean) yX4_takePiece.cls TX G) (σ : x_Hp) (h : F_X4_takePiece_184 σ = some (r, τ)) : x_W p l e rm_X4_takePiece s m args below meth c (MQ below (x_Q TX G (some (.int r)) τ) args s 0 0 (x_A TX G)) TX G 7 184 [(0, .ref (x_ad G 14))] [] σ := by
  have hG : x_OK TX G := C.2.2.2.2.2.2.2.2.1
  rw [F_X4_takePiece_184] at h
  refine x_aload_n C 0 dX4_takePiece_184 rfl rfl ?_
  refine x_iconst C (1 : Int32) dX4_takePiece_185 (by decide) ?_
  obtain ⟨v16, σ16, hc16, h⟩ := x_b_some h
  refine x_callV C (n := 1) (c_X4_fail hG hc16) kX_14 (by decide) rfl wd_727 wd_729 wd_14 wd_105 wd_730 (by decide +kernel) rfl ⟨Nat.le_of_ble_eq_true rfl, Nat.le_of_ble_eq_true rfl⟩ ⟨rfl, rfl⟩ rfl (Nat.le_of_ble_eq_true rfl) dX4_takePiece_186 ?_
  obtain ⟨hg, h⟩ := x_gd_some h
  obtain ⟨rfl, rfl⟩ := x_ret h
  exact x_zret C (x_isz_n hg) dX4_takePiece_189
set_option maxHeartbeats 4000000 in
set_option maxRecDepth 100000 in
theorem w_X4_takePiece_190 {r : Int32} {τ : x_Hp} (C : x_C p s m args meth c cX4_takePiece 7 (some .boolean) yX4_takePiece.cls TX G) {k15 : Int32 → Int32 → Int32 → Int32 → Int32 → x_Hp → Option (Int32 × x_Hp)} (hk15 : ∀ (x1 : Int32) (x2 : Int32) (x3 : Int32) (x4 : Int32) (x5 : Int32) (σ : x_Hp) (h : k15 x1 x2 x3 x4 x5 σ = some (r, τ)), x_W p l e rm_X4_takePiece s m args below meth c (MQ below (x_Q TX G (some (.int r)) τ) args s 0 0 (x_A TX G)) TX G 7 15 [(0, .ref (x_ad G 14)), (1, .int x1), (2, .int x2), (3, .int x3), (4, .int x4), (5, .int x5)] [] σ) (x1 : Int32) (x2 : Int32) (x3 : Int32) (x4 : Int32) (x5 : Int32) (σ : x_Hp) (h : F_X4_takePiece_190 k15 x1 x2 x3 x4 x5 σ = some (r, τ)) : x_W p l e rm_X4_takePiece s m args below meth c (MQ below (x_Q TX G (some (.int r)) τ) args s 0 0 (x_A TX G)) TX G 7 190 [(0, .ref (x_ad G 14)), (1, .int x1), (2, .int x2), (3, .int x3), (4, .int x4), (5, .int x5)] [] σ := by
  have hG : x_OK TX G := C.2.2.2.2.2.2.2.2.1
  rw [F_X4_takePiece_190] at h
  refine x_aload_n C 0 dX4_takePiece_190 rfl rfl ?_
  obtain ⟨v13, σ13, hc13, h⟩ := x_b_some h
  refine x_callV C (n := 0) (c_X4_take hG hc13) kX_14 (by decide) rfl wd_731 wd_733 wd_15 wd_105 wd_734 (by decide +kernel) rfl ⟨Nat.le_of_ble_eq_true rfl, Nat.le_of_ble_eq_true rfl⟩ ⟨rfl, rfl⟩ rfl (Nat.le_of_ble_eq_true rfl) dX4_takePiece_191 ?_
  refine x_if_ne C 199 dX4_takePiece_194 rfl (fun hc => ?_) (fun hc => ?_)
  · replace h := x_itn hc h
    refine x_iinc C 5 (x5 + (1 : Int32)) [(5, .int (x5 + (1 : Int32))), (0, .ref (x_ad G 14)), (1, .int x1), (2, .int x2), (3, .int x3), (4, .int x4)] dX4_takePiece_199 rfl rfl (by decide) rfl ?_
    refine x_goto C 15 dX4_takePiece_202 rfl ?_
    exact x_sub [1, 2, 3, 4, 5, 0] rfl (hk15 x1 x2 x3 x4 (x5 + (1 : Int32)) σ13 h)
  · replace h := x_itp hc h
    refine x_iconst C (0 : Int32) dX4_takePiece_197 (by decide) ?_
    obtain ⟨rfl, rfl⟩ := x_ret h
    exact x_zret C rfl dX4_takePiece_198
set_option maxHeartbeats 4000000 in
set_option maxRecDepth 100000 in
theorem w_X4_takePiece_153 {r : Int32} {τ : x_Hp} (C : x_C p s m args meth c cX4_takePiece 7 (some .boolean) yX4_takePiece.cls TX G) {k15 : Int32 → Int32 → Int32 → Int32 → Int32 → x_Hp → Option (Int32 × x_Hp)} (hk15 : ∀ (x1 : Int32) (x2 : Int32) (x3 : Int32) (x4 : Int32) (x5 : Int32) (σ : x_Hp) (h : k15 x1 x2 x3 x4 x5 σ = some (r, τ)), x_W p l e rm_X4_takePiece s m args below meth c (MQ below (x_Q TX G (some (.int r)) τ) args s 0 0 (x_A TX G)) TX G 7 15 [(0, .ref (x_ad G 14)), (1, .int x1), (2, .int x2), (3, .int x3), (4, .int x4), (5, .int x5)] [] σ) (x1 : Int32) (x2 : Int32) (x3 : Int32) (x5 : Int32) (x6 : Int32) (σ : x_Hp) (h : F_X4_takePiece_153 k15 x1 x2 x3 x5 x6 σ = some (r, τ)) : x_W p l e rm_X4_takePiece s m args below meth c (MQ below (x_Q TX G (some (.int r)) τ) args s 0 0 (x_A TX G)) TX G 7 153 [(0, .ref (x_ad G 14)), (1, .int x1), (2, .int x2), (3, .int x3), (5, .int x5), (6, .int x6)] [] σ := by
  have hG : x_OK TX G := C.2.2.2.2.2.2.2.2.1
  rw [F_X4_takePiece_153] at h
  refine x_iload_n C 2 dX4_takePiece_153 rfl rfl ?_
  refine x_if_ne C 184 dX4_takePiece_154 rfl (fun hc => ?_) (fun hc => ?_)
  · replace h := x_itn hc h
    exact x_sub [0] rfl (w_X4_takePiece_184 C σ h)
  · replace h := x_itp hc h
    refine x_iload C 5 dX4_takePiece_157 rfl ?_
    refine x_iload_n C 1 dX4_takePiece_159 rfl rfl ?_
    refine x_icmp_ne C 184 dX4_takePiece_160 rfl (fun hc => ?_) (fun hc => ?_)
    · replace h := x_itn hc h
      exact x_sub [0] rfl (w_X4_takePiece_184 C σ h)
    · replace h := x_itp hc h
      refine x_aload_n C 0 dX4_takePiece_163 rfl rfl ?_
      refine x_iconst C (1 : Int32) dX4_takePiece_164 (by decide) ?_
      obtain ⟨v14, σ14, hc14, h⟩ := x_b_some h
      refine x_callV C (n := 1) (c_X4_endWaiting hG hc14) kX_14 (by decide) rfl wd_787 wd_789 wd_25 wd_105 wd_790 (by decide +kernel) rfl ⟨Nat.le_of_ble_eq_true rfl, Nat.le_of_ble_eq_true rfl⟩ ⟨rfl, rfl⟩ rfl (Nat.le_of_ble_eq_true rfl) dX4_takePiece_165 ?_
      refine x_aload_n C 0 dX4_takePiece_168 rfl rfl ?_
      refine x_getRq C (k := 12) kX_14 (by decide) rfl x_in4 (by decide) (by decide) rfl rfl wd_258 rfX_14_12 dX4_takePiece_169 ?_
      refine x_getRq C (k := 14) kX_21 (by decide) rfl x_in6 (by decide) (by decide) rfl rfl wd_204 rfX_21_14 dX4_takePiece_172 ?_
      obtain ⟨v15, σ15, hc15, h⟩ := x_b_some h
      refine x_callV C (n := 0) (c_X1_endPiece hG kX_28 hc15) kX_28 (by decide) rfl wd_791 wd_529 wd_530 wd_104 wd_531 (by decide +kernel) rfl ⟨Nat.le_of_ble_eq_true rfl, Nat.le_of_ble_eq_true rfl⟩ ⟨rfl, rfl⟩ rfl (Nat.le_of_ble_eq_true rfl) dX4_takePiece_175 ?_
      refine x_iconst C (0 : Int32) dX4_takePiece_178 (by decide) ?_
      refine x_istore C [(4, .int (0 : Int32)), (0, .ref (x_ad G 14)), (1, .int x1), (2, .int x2), (3, .int x3), (5, .int x5), (6, .int x6)] dX4_takePiece_179 (by decide) rfl ?_
      refine x_goto C 190 dX4_takePiece_181 rfl ?_
      exact x_sub [1, 2, 3, 4, 0, 5] rfl (w_X4_takePiece_190 C hk15 x1 x2 x3 (0 : Int32) x5 σ15 h)
set_option maxHeartbeats 4000000 in
set_option maxRecDepth 100000 in
theorem w_X4_takePiece_69 {r : Int32} {τ : x_Hp} (C : x_C p s m args meth c cX4_takePiece 7 (some .boolean) yX4_takePiece.cls TX G) {k15 : Int32 → Int32 → Int32 → Int32 → Int32 → x_Hp → Option (Int32 × x_Hp)} (hk15 : ∀ (x1 : Int32) (x2 : Int32) (x3 : Int32) (x4 : Int32) (x5 : Int32) (σ : x_Hp) (h : k15 x1 x2 x3 x4 x5 σ = some (r, τ)), x_W p l e rm_X4_takePiece s m args below meth c (MQ below (x_Q TX G (some (.int r)) τ) args s 0 0 (x_A TX G)) TX G 7 15 [(0, .ref (x_ad G 14)), (1, .int x1), (2, .int x2), (3, .int x3), (4, .int x4), (5, .int x5)] [] σ) (x1 : Int32) (x2 : Int32) (x3 : Int32) (x4 : Int32) (x5 : Int32) (x6 : Int32) (σ : x_Hp) (h : F_X4_takePiece_69 k15 x1 x2 x3 x4 x5 x6 σ = some (r, τ)) : x_W p l e rm_X4_takePiece s m args below meth c (MQ below (x_Q TX G (some (.int r)) τ) args s 0 0 (x_A TX G)) TX G 7 69 [(0, .ref (x_ad G 14)), (1, .int x1), (2, .int x2), (3, .int x3), (4, .int x4), (5, .int x5), (6, .int x6)] [] σ := by
  have hG : x_OK TX G := C.2.2.2.2.2.2.2.2.1
  rw [F_X4_takePiece_69] at h
  refine x_iload_n C 3 dX4_takePiece_69 rfl rfl ?_
  refine x_if_eq C 93 dX4_takePiece_70 rfl (fun hc => ?_) (fun hc => ?_)
  · replace h := x_itp hc h
    refine x_iload C 6 dX4_takePiece_93 rfl ?_
    obtain ⟨v5, σ5, hc5, h⟩ := x_b_some h
    refine x_callS C (n := 1) (c_X4_isSign hG hc5) wd_711 wd_712 wd_105 wd_713 (by decide +kernel) rfl ⟨Nat.le_of_ble_eq_true rfl, Nat.le_of_ble_eq_true rfl⟩ ⟨rfl, rfl⟩ rfl (Nat.le_of_ble_eq_true rfl) dX4_takePiece_95 ?_
    refine x_if_eq C 121 dX4_takePiece_98 rfl (fun hc => ?_) (fun hc => ?_)
    · replace h := x_itp hc h
      refine x_iload C 6 dX4_takePiece_121 rfl ?_
      refine x_bipush C (41 : Int32) dX4_takePiece_123 (by decide) ?_
      refine x_icmp_ne C 153 dX4_takePiece_125 rfl (fun hc => ?_) (fun hc => ?_)
      · replace h := x_itn hc h
        exact x_sub [0, 1, 2, 3, 5, 6] rfl (w_X4_takePiece_153 C hk15 x1 x2 x3 x5 x6 σ5 h)
      · replace h := x_itp hc h
        refine x_iload_n C 2 dX4_takePiece_128 rfl rfl ?_
        refine x_if_le C 153 dX4_takePiece_129 rfl (fun hc => ?_) (fun hc => ?_)
        · replace h := x_itp hc h
          exact x_sub [0, 1, 2, 3, 5, 6] rfl (w_X4_takePiece_153 C hk15 x1 x2 x3 x5 x6 σ5 h)
        · replace h := x_itn hc h
          refine x_aload_n C 0 dX4_takePiece_132 rfl rfl ?_
          refine x_iconst C (1 : Int32) dX4_takePiece_133 (by decide) ?_
          obtain ⟨v6, σ6, hc6, h⟩ := x_b_some h
          refine x_callV C (n := 1) (c_X4_endWaiting hG hc6) kX_14 (by decide) rfl wd_787 wd_789 wd_25 wd_105 wd_790 (by decide +kernel) rfl ⟨Nat.le_of_ble_eq_true rfl, Nat.le_of_ble_eq_true rfl⟩ ⟨rfl, rfl⟩ rfl (Nat.le_of_ble_eq_true rfl) dX4_takePiece_134 ?_
          refine x_aload_n C 0 dX4_takePiece_137 rfl rfl ?_
          refine x_dup C dX4_takePiece_138 rfl ?_
          refine x_getI C (k := 9) kX_14 (by decide) rfl x_in4 (by decide) (by decide) rfl rfl wd_254 dX4_takePiece_139 ?_
          refine x_iconst C (1 : Int32) dX4_takePiece_142 (by decide) ?_
          refine x_isub C dX4_takePiece_143 ?_
          refine x_putI C (k := 9) tyX4 kX_14 (by decide) rfl x_in4 tyX4_ok nmX4 (by decide) (by decide) rfl rfl wd_254 rfl (tyX4_ok 9 (by decide)) rfl rfl dX4_takePiece_144 (x_gen h fun σ7 h => ?_)
          refine x_iinc C 2 (x2 + (-1 : Int32)) [(2, .int (x2 + (-1 : Int32))), (0, .ref (x_ad G 14)), (1, .int x1), (3, .int x3), (4, .int x4), (5, .int x5), (6, .int x6)] dX4_takePiece_147 rfl rfl (by decide) rfl ?_
          refine x_goto C 190 dX4_takePiece_150 rfl ?_
          exact x_sub [1, 2, 0, 3, 4, 5] rfl (w_X4_takePiece_190 C hk15 x1 (x2 + (-1 : Int32)) x3 x4 x5 σ7 h)
    · replace h := x_itn hc h
      refine x_aload_n C 0 dX4_takePiece_101 rfl rfl ?_
      refine x_iload C 6 dX4_takePiece_102 rfl ?_
      obtain ⟨v8, σ8, hc8, h⟩ := x_b_some h
      refine x_callS C (n := 1) (c_X4_rank hG hc8) wd_784 wd_785 wd_105 wd_786 (by decide +kernel) rfl ⟨Nat.le_of_ble_eq_true rfl, Nat.le_of_ble_eq_true rfl⟩ ⟨rfl, rfl⟩ rfl (Nat.le_of_ble_eq_true rfl) dX4_takePiece_104 ?_
      obtain ⟨v9, σ9, hc9, h⟩ := x_b_some h
      refine x_callV C (n := 1) (c_X4_endWaiting hG hc9) kX_14 (by decide) rfl wd_787 wd_789 wd_25 wd_105 wd_790 (by decide +kernel) rfl ⟨Nat.le_of_ble_eq_true rfl, Nat.le_of_ble_eq_true rfl⟩ ⟨rfl, rfl⟩ rfl (Nat.le_of_ble_eq_true rfl) dX4_takePiece_107 ?_
      refine x_aload_n C 0 dX4_takePiece_110 rfl rfl ?_
      refine x_iload C 6 dX4_takePiece_111 rfl ?_
      obtain ⟨v10, σ10, hc10, h⟩ := x_b_some h
      refine x_callV C (n := 1) (c_X4_addWaiting hG hc10) kX_14 (by decide) rfl wd_775 wd_777 wd_23 wd_105 wd_778 (by decide +kernel) rfl ⟨Nat.le_of_ble_eq_true rfl, Nat.le_of_ble_eq_true rfl⟩ ⟨rfl, rfl⟩ rfl (Nat.le_of_ble_eq_true rfl) dX4_takePiece_113 ?_
      refine x_iconst C (1 : Int32) dX4_takePiece_116 (by decide) ?_
      refine x_istore_n C [(3, .int (1 : Int32)), (0, .ref (x_ad G 14)), (1, .int x1), (2, .int x2), (4, .int x4), (5, .int x5), (6, .int x6)] dX4_takePiece_117 rfl (by decide) rfl ?_
      refine x_goto C 190 dX4_takePiece_118 rfl ?_
      exact x_sub [1, 2, 3, 0, 4, 5] rfl (w_X4_takePiece_190 C hk15 x1 x2 (1 : Int32) x4 x5 σ10 h)
  · replace h := x_itn hc h
    refine x_aload_n C 0 dX4_takePiece_73 rfl rfl ?_
    refine x_iload C 6 dX4_takePiece_74 rfl ?_
    obtain ⟨v11, σ11, hc11, h⟩ := x_b_some h
    refine x_callV C (n := 1) (c_X4_addUnit hG hc11) kX_14 (by decide) rfl wd_779 wd_781 wd_24 wd_105 wd_782 (by decide +kernel) rfl ⟨Nat.le_of_ble_eq_true rfl, Nat.le_of_ble_eq_true rfl⟩ ⟨rfl, rfl⟩ rfl (Nat.le_of_ble_eq_true rfl) dX4_takePiece_76 ?_
    refine x_if_ne C 88 dX4_takePiece_79 rfl (fun hc => ?_) (fun hc => ?_)
    · replace h := x_itn hc h
      refine x_iconst C (0 : Int32) dX4_takePiece_88 (by decide) ?_
      refine x_istore_n C [(3, .int (0 : Int32)), (0, .ref (x_ad G 14)), (1, .int x1), (2, .int x2), (4, .int x4), (5, .int x5), (6, .int x6)] dX4_takePiece_89 rfl (by decide) rfl ?_
      refine x_goto C 190 dX4_takePiece_90 rfl ?_
      exact x_sub [1, 2, 3, 0, 4, 5] rfl (w_X4_takePiece_190 C hk15 x1 x2 (0 : Int32) x4 x5 σ11 h)
    · replace h := x_itp hc h
      refine x_aload_n C 0 dX4_takePiece_82 rfl rfl ?_
      refine x_iconst C (1 : Int32) dX4_takePiece_83 (by decide) ?_
      obtain ⟨v12, σ12, hc12, h⟩ := x_b_some h
      refine x_callV C (n := 1) (c_X4_fail hG hc12) kX_14 (by decide) rfl wd_727 wd_729 wd_14 wd_105 wd_730 (by decide +kernel) rfl ⟨Nat.le_of_ble_eq_true rfl, Nat.le_of_ble_eq_true rfl⟩ ⟨rfl, rfl⟩ rfl (Nat.le_of_ble_eq_true rfl) dX4_takePiece_84 ?_
      obtain ⟨hg, h⟩ := x_gd_some h
      obtain ⟨rfl, rfl⟩ := x_ret h
      exact x_zret C (x_isz_n hg) dX4_takePiece_87
set_option maxHeartbeats 4000000 in
set_option maxRecDepth 100000 in
theorem w_X4_takePiece_15 {r : Int32} {τ : x_Hp} (C : x_C p s m args meth c cX4_takePiece 7 (some .boolean) yX4_takePiece.cls TX G) : ∀ (n : Nat) (x1 : Int32) (x2 : Int32) (x3 : Int32) (x4 : Int32) (x5 : Int32) (σ : x_Hp) (h : F_X4_takePiece_15 n x1 x2 x3 x4 x5 σ = some (r, τ)), x_W p l e rm_X4_takePiece s m args below meth c (MQ below (x_Q TX G (some (.int r)) τ) args s 0 0 (x_A TX G)) TX G 7 15 [(0, .ref (x_ad G 14)), (1, .int x1), (2, .int x2), (3, .int x3), (4, .int x4), (5, .int x5)] [] σ := by
  intro n
  induction n with
  | zero => intro x1 x2 x3 x4 x5 σ  h; cases h
  | succ n ih =>
    intro x1 x2 x3 x4 x5 σ  h
    have hG : x_OK TX G := C.2.2.2.2.2.2.2.2.1
    rw [F_X4_takePiece_15] at h
    refine x_iload C 5 dX4_takePiece_15 rfl ?_
    refine x_sipush C (400 : Int32) dX4_takePiece_17 (by decide) ?_
    refine x_icmp_gt C 205 dX4_takePiece_20 rfl (fun hc => ?_) (fun hc => ?_)
    · replace h := x_itp hc h
      refine x_iload C 4 dX4_takePiece_205 rfl ?_
      refine x_if_ne C 214 dX4_takePiece_207 rfl (fun hc => ?_) (fun hc => ?_)
      · replace h := x_itn hc h
        refine x_iconst C (0 : Int32) dX4_takePiece_214 (by decide) ?_
        obtain ⟨rfl, rfl⟩ := x_ret h
        exact x_zret C rfl dX4_takePiece_215
      · replace h := x_itp hc h
        refine x_iconst C (1 : Int32) dX4_takePiece_210 (by decide) ?_
        refine x_goto C 215 dX4_takePiece_211 rfl ?_
        obtain ⟨rfl, rfl⟩ := x_ret h
        exact x_zret C rfl dX4_takePiece_215
    · replace h := x_itn hc h
      refine x_iload C 4 dX4_takePiece_23 rfl ?_
      refine x_if_eq C 205 dX4_takePiece_25 rfl (fun hc => ?_) (fun hc => ?_)
      · replace h := x_itp hc h
        refine x_iload C 4 dX4_takePiece_205 rfl ?_
        refine x_if_ne C 214 dX4_takePiece_207 rfl (fun hc => ?_) (fun hc => ?_)
        · replace h := x_itn hc h
          refine x_iconst C (0 : Int32) dX4_takePiece_214 (by decide) ?_
          obtain ⟨rfl, rfl⟩ := x_ret h
          exact x_zret C rfl dX4_takePiece_215
        · replace h := x_itp hc h
          refine x_iconst C (1 : Int32) dX4_takePiece_210 (by decide) ?_
          refine x_goto C 215 dX4_takePiece_211 rfl ?_
          obtain ⟨rfl, rfl⟩ := x_ret h
          exact x_zret C rfl dX4_takePiece_215
      · replace h := x_itn hc h
        refine x_aload_n C 0 dX4_takePiece_28 rfl rfl ?_
        obtain ⟨v2, σ2, hc2, h⟩ := x_b_some h
        refine x_callV C (n := 0) (c_X4_kind hG hc2) kX_14 (by decide) rfl wd_714 wd_716 wd_11 wd_105 wd_717 (by decide +kernel) rfl ⟨Nat.le_of_ble_eq_true rfl, Nat.le_of_ble_eq_true rfl⟩ ⟨rfl, rfl⟩ rfl (Nat.le_of_ble_eq_true rfl) dX4_takePiece_29 ?_
        refine x_istore C [(6, .int v2), (0, .ref (x_ad G 14)), (1, .int x1), (2, .int x2), (3, .int x3), (4, .int x4), (5, .int x5)] dX4_takePiece_32 (by decide) rfl ?_
        refine x_iload_n C 4 dX4_takePiece_34 rfl rfl ?_
        refine x_if_eq C 69 dX4_takePiece_35 rfl (fun hc => ?_) (fun hc => ?_)
        · replace h := x_itp hc h
          exact x_sub [1, 2, 3, 4, 5, 6, 0] rfl (w_X4_takePiece_69 C ih x1 x2 x3 x4 x5 v2 σ2 h)
        · replace h := x_itn hc h
          refine x_iload C 0 dX4_takePiece_38 rfl ?_
          refine x_bipush C (40 : Int32) dX4_takePiece_40 (by decide) ?_
          refine x_icmp_ne C 69 dX4_takePiece_42 rfl (fun hc => ?_) (fun hc => ?_)
          · replace h := x_itn hc h
            exact x_sub [1, 2, 3, 4, 5, 6, 0] rfl (w_X4_takePiece_69 C ih x1 x2 x3 x4 x5 v2 σ2 h)
          · replace h := x_itp hc h
            refine x_iload_n C 3 dX4_takePiece_45 rfl rfl ?_
            refine x_bipush C (6 : Int32) dX4_takePiece_46 (by decide) ?_
            refine x_icmp_lt C 57 dX4_takePiece_48 rfl (fun hc => ?_) (fun hc => ?_)
            · replace h := x_itp hc h
              refine x_iinc C 3 (x2 + (1 : Int32)) [(2, .int (x2 + (1 : Int32))), (6, .int v2), (0, .ref (x_ad G 14)), (1, .int x1), (3, .int x3), (4, .int x4), (5, .int x5)] dX4_takePiece_57 rfl rfl (by decide) rfl ?_
              refine x_aload_n C 2 dX4_takePiece_60 rfl rfl ?_
              refine x_iload C 1 dX4_takePiece_61 rfl ?_
              obtain ⟨v3, σ3, hc3, h⟩ := x_b_some h
              refine x_callV C (n := 1) (c_X4_addWaiting hG hc3) kX_14 (by decide) rfl wd_775 wd_777 wd_23 wd_105 wd_778 (by decide +kernel) rfl ⟨Nat.le_of_ble_eq_true rfl, Nat.le_of_ble_eq_true rfl⟩ ⟨rfl, rfl⟩ rfl (Nat.le_of_ble_eq_true rfl) dX4_takePiece_63 ?_
              refine x_goto C 190 dX4_takePiece_66 rfl ?_
              exact x_sub [2, 3, 0, 4, 5, 6] rfl (w_X4_takePiece_190 C ih x1 (x2 + (1 : Int32)) x3 x4 x5 σ3 h)
            · replace h := x_itn hc h
              refine x_aload_n C 1 dX4_takePiece_51 rfl rfl ?_
              refine x_iconst C (2 : Int32) dX4_takePiece_52 (by decide) ?_
              obtain ⟨v4, σ4, hc4, h⟩ := x_b_some h
              refine x_callV C (n := 1) (c_X4_fail hG hc4) kX_14 (by decide) rfl wd_727 wd_729 wd_14 wd_105 wd_730 (by decide +kernel) rfl ⟨Nat.le_of_ble_eq_true rfl, Nat.le_of_ble_eq_true rfl⟩ ⟨rfl, rfl⟩ rfl (Nat.le_of_ble_eq_true rfl) dX4_takePiece_53 ?_
              obtain ⟨hg, h⟩ := x_gd_some h
              obtain ⟨rfl, rfl⟩ := x_ret h
              exact x_zret C (x_isz_n hg) dX4_takePiece_56
set_option maxHeartbeats 4000000 in
set_option maxRecDepth 100000 in
theorem c_X4_takePiece (hG : x_OK TX G) {x1 : Int32} {σ τ : x_Hp} {r : Int32} (h : F_X4_takePiece x1 σ = some (r, τ)) : x_M l TX G yX4_takePiece cX4_takePiece 7 (some .boolean) rm_X4_takePiece [.ref (x_ad G 14), .int x1] σ (some (.int r)) τ := by
  refine x_M.of hG (lv := [(0, .ref (x_ad G 14)), (1, .int x1)]) (by decide) (Nat.le_of_ble_eq_true rfl) rfl (fun p e s m below meth c C => ?_)
  rw [F_X4_takePiece] at h
  refine x_aload_n C 0 dX4_takePiece_0 rfl rfl ?_
  refine x_iconst C (0 : Int32) dX4_takePiece_1 (by decide) ?_
  refine x_putI C (k := 9) tyX4 kX_14 (by decide) rfl x_in4 tyX4_ok nmX4 (by decide) (by decide) rfl rfl wd_254 rfl (tyX4_ok 9 (by decide)) rfl rfl dX4_takePiece_2 (x_gen h fun σ1 h => ?_)
  refine x_iconst C (0 : Int32) dX4_takePiece_5 (by decide) ?_
  refine x_istore_n C [(2, .int (0 : Int32)), (0, .ref (x_ad G 14)), (1, .int x1)] dX4_takePiece_6 rfl (by decide) rfl ?_
  refine x_iconst C (1 : Int32) dX4_takePiece_7 (by decide) ?_
  refine x_istore_n C [(3, .int (1 : Int32)), (2, .int (0 : Int32)), (0, .ref (x_ad G 14)), (1, .int x1)] dX4_takePiece_8 rfl (by decide) rfl ?_
  refine x_iconst C (1 : Int32) dX4_takePiece_9 (by decide) ?_
  refine x_istore C [(4, .int (1 : Int32)), (3, .int (1 : Int32)), (2, .int (0 : Int32)), (0, .ref (x_ad G 14)), (1, .int x1)] dX4_takePiece_10 (by decide) rfl ?_
  refine x_iconst C (0 : Int32) dX4_takePiece_12 (by decide) ?_
  refine x_istore C [(5, .int (0 : Int32)), (4, .int (1 : Int32)), (3, .int (1 : Int32)), (2, .int (0 : Int32)), (0, .ref (x_ad G 14)), (1, .int x1)] dX4_takePiece_13 (by decide) rfl ?_
  exact x_sub [4, 5, 3, 2, 1, 0] rfl (w_X4_takePiece_15 C x_fuel x1 (0 : Int32) (1 : Int32) (1 : Int32) (0 : Int32) σ1 h)
abbrev rm_X4_tellLaw : Room := { frames := 4, cells := 0, slots := 0, locals := 90 }
set_option maxHeartbeats 4000000 in
set_option maxRecDepth 100000 in
theorem w_X4_tellLaw_109 {r : Int32} {τ : x_Hp} (C : x_C p s m args meth c cX4_tellLaw 3 (some .boolean) yX4_tellLaw.cls TX G) (σ : x_Hp) (h : F_X4_tellLaw_109 σ = some (r, τ)) : x_W p l e rm_X4_tellLaw s m args below meth c (MQ below (x_Q TX G (some (.int r)) τ) args s 0 0 (x_A TX G)) TX G 3 109 [(0, .ref (x_ad G 14))] [] σ := by
  have hG : x_OK TX G := C.2.2.2.2.2.2.2.2.1
  rw [F_X4_tellLaw_109] at h
  refine x_aload_n C 0 dX4_tellLaw_109 rfl rfl ?_
  refine x_bipush C (59 : Int32) dX4_tellLaw_110 (by decide) ?_
  obtain ⟨v11, σ11, hc11, h⟩ := x_b_some h
  refine x_callV C (n := 1) (c_X4_takePiece hG hc11) kX_14 (by decide) rfl wd_771 wd_773 wd_22 wd_105 wd_774 (by decide +kernel) rfl ⟨Nat.le_of_ble_eq_true rfl, Nat.le_of_ble_eq_true rfl⟩ ⟨rfl, rfl⟩ rfl (Nat.le_of_ble_eq_true rfl) dX4_tellLaw_112 ?_
  obtain ⟨hg, h⟩ := x_gd_some h
  obtain ⟨rfl, rfl⟩ := x_ret h
  exact x_zret C (x_isz_n hg) dX4_tellLaw_115
set_option maxHeartbeats 4000000 in
set_option maxRecDepth 100000 in
theorem w_X4_tellLaw_31 {r : Int32} {τ : x_Hp} (C : x_C p s m args meth c cX4_tellLaw 3 (some .boolean) yX4_tellLaw.cls TX G) : ∀ (n : Nat) (x1 : Int32) (x2 : Int32) (σ : x_Hp) (h : F_X4_tellLaw_31 n x1 x2 σ = some (r, τ)), x_W p l e rm_X4_tellLaw s m args below meth c (MQ below (x_Q TX G (some (.int r)) τ) args s 0 0 (x_A TX G)) TX G 3 31 [(0, .ref (x_ad G 14)), (1, .int x1), (2, .int x2)] [] σ := by
  intro n
  induction n with
  | zero => intro x1 x2 σ  h; cases h
  | succ n ih =>
    intro x1 x2 σ  h
    have hG : x_OK TX G := C.2.2.2.2.2.2.2.2.1
    rw [F_X4_tellLaw_31] at h
    refine x_iload_n C 2 dX4_tellLaw_31 rfl rfl ?_
    refine x_iconst C (4 : Int32) dX4_tellLaw_32 (by decide) ?_
    refine x_icmp_gt C 109 dX4_tellLaw_33 rfl (fun hc => ?_) (fun hc => ?_)
    · replace h := x_itp hc h
      exact x_sub [0] rfl (w_X4_tellLaw_109 C σ h)
    · replace h := x_itn hc h
      refine x_aload_n C 0 dX4_tellLaw_36 rfl rfl ?_
      obtain ⟨v4, σ4, hc4, h⟩ := x_b_some h
      refine x_callV C (n := 0) (c_X4_kind hG hc4) kX_14 (by decide) rfl wd_714 wd_716 wd_11 wd_105 wd_717 (by decide +kernel) rfl ⟨Nat.le_of_ble_eq_true rfl, Nat.le_of_ble_eq_true rfl⟩ ⟨rfl, rfl⟩ rfl (Nat.le_of_ble_eq_true rfl) dX4_tellLaw_37 ?_
      refine x_bipush C (13 : Int32) dX4_tellLaw_40 (by decide) ?_
      refine x_icmp_ne C 109 dX4_tellLaw_42 rfl (fun hc => ?_) (fun hc => ?_)
      · replace h := x_itn hc h
        exact x_sub [0] rfl (w_X4_tellLaw_109 C σ4 h)
      · replace h := x_itp hc h
        refine x_iload_n C 2 dX4_tellLaw_45 rfl rfl ?_
        refine x_iconst C (4 : Int32) dX4_tellLaw_46 (by decide) ?_
        refine x_icmp_ne C 56 dX4_tellLaw_47 rfl (fun hc => ?_) (fun hc => ?_)
        · replace h := x_itn hc h
          refine x_aload_n C 0 dX4_tellLaw_56 rfl rfl ?_
          obtain ⟨v5, σ5, hc5, h⟩ := x_b_some h
          refine x_callV C (n := 0) (c_X4_take hG hc5) kX_14 (by decide) rfl wd_731 wd_733 wd_15 wd_105 wd_734 (by decide +kernel) rfl ⟨Nat.le_of_ble_eq_true rfl, Nat.le_of_ble_eq_true rfl⟩ ⟨rfl, rfl⟩ rfl (Nat.le_of_ble_eq_true rfl) dX4_tellLaw_57 ?_
          refine x_if_eq C 90 dX4_tellLaw_60 rfl (fun hc => ?_) (fun hc => ?_)
          · replace h := x_itp hc h
            refine x_iconst C (0 : Int32) dX4_tellLaw_90 (by decide) ?_
            obtain ⟨rfl, rfl⟩ := x_ret h
            exact x_zret C rfl dX4_tellLaw_91
          · replace h := x_itn hc h
            refine x_aload_n C 0 dX4_tellLaw_63 rfl rfl ?_
            refine x_bipush C (60 : Int32) dX4_tellLaw_64 (by decide) ?_
            obtain ⟨v6, σ6, hc6, h⟩ := x_b_some h
            refine x_callV C (n := 1) (c_X4_takePiece hG hc6) kX_14 (by decide) rfl wd_771 wd_773 wd_22 wd_105 wd_774 (by decide +kernel) rfl ⟨Nat.le_of_ble_eq_true rfl, Nat.le_of_ble_eq_true rfl⟩ ⟨rfl, rfl⟩ rfl (Nat.le_of_ble_eq_true rfl) dX4_tellLaw_66 ?_
            refine x_if_eq C 90 dX4_tellLaw_69 rfl (fun hc => ?_) (fun hc => ?_)
            · replace h := x_itp hc h
              refine x_iconst C (0 : Int32) dX4_tellLaw_90 (by decide) ?_
              obtain ⟨rfl, rfl⟩ := x_ret h
              exact x_zret C rfl dX4_tellLaw_91
            · replace h := x_itn hc h
              refine x_aload_n C 0 dX4_tellLaw_72 rfl rfl ?_
              refine x_bipush C (14 : Int32) dX4_tellLaw_73 (by decide) ?_
              obtain ⟨v7, σ7, hc7, h⟩ := x_b_some h
              refine x_callV C (n := 1) (c_X4_takePiece hG hc7) kX_14 (by decide) rfl wd_771 wd_773 wd_22 wd_105 wd_774 (by decide +kernel) rfl ⟨Nat.le_of_ble_eq_true rfl, Nat.le_of_ble_eq_true rfl⟩ ⟨rfl, rfl⟩ rfl (Nat.le_of_ble_eq_true rfl) dX4_tellLaw_75 ?_
              refine x_if_eq C 90 dX4_tellLaw_78 rfl (fun hc => ?_) (fun hc => ?_)
              · replace h := x_itp hc h
                refine x_iconst C (0 : Int32) dX4_tellLaw_90 (by decide) ?_
                obtain ⟨rfl, rfl⟩ := x_ret h
                exact x_zret C rfl dX4_tellLaw_91
              · replace h := x_itn hc h
                refine x_aload_n C 0 dX4_tellLaw_81 rfl rfl ?_
                refine x_bipush C (15 : Int32) dX4_tellLaw_82 (by decide) ?_
                obtain ⟨v8, σ8, hc8, h⟩ := x_b_some h
                refine x_callV C (n := 1) (c_X4_takePiece hG hc8) kX_14 (by decide) rfl wd_771 wd_773 wd_22 wd_105 wd_774 (by decide +kernel) rfl ⟨Nat.le_of_ble_eq_true rfl, Nat.le_of_ble_eq_true rfl⟩ ⟨rfl, rfl⟩ rfl (Nat.le_of_ble_eq_true rfl) dX4_tellLaw_84 ?_
                refine x_if_ne C 92 dX4_tellLaw_87 rfl (fun hc => ?_) (fun hc => ?_)
                · replace h := x_itn hc h
                  refine x_aload_n C 0 dX4_tellLaw_92 rfl rfl ?_
                  refine x_getRq C (k := 12) kX_14 (by decide) rfl x_in4 (by decide) (by decide) rfl rfl wd_258 rfX_14_12 dX4_tellLaw_93 ?_
                  refine x_getRq C (k := 14) kX_21 (by decide) rfl x_in6 (by decide) (by decide) rfl rfl wd_204 rfX_21_14 dX4_tellLaw_96 ?_
                  refine x_iload_n C 1 dX4_tellLaw_99 rfl rfl ?_
                  obtain ⟨v9, σ9, hc9, h⟩ := x_b_some h
                  refine x_callV C (n := 1) (c_X1_addIf hG kX_28 hc9) kX_28 (by decide) rfl wd_792 wd_793 wd_794 wd_104 wd_795 (by decide +kernel) rfl ⟨Nat.le_of_ble_eq_true rfl, Nat.le_of_ble_eq_true rfl⟩ ⟨rfl, rfl⟩ rfl (Nat.le_of_ble_eq_true rfl) dX4_tellLaw_100 ?_
                  refine x_iinc C 2 (x2 + (1 : Int32)) [(2, .int (x2 + (1 : Int32))), (0, .ref (x_ad G 14)), (1, .int x1)] dX4_tellLaw_103 rfl rfl (by decide) rfl ?_
                  refine x_goto C 31 dX4_tellLaw_106 rfl ?_
                  exact x_sub [1, 2, 0] rfl (ih x1 (x2 + (1 : Int32)) σ9 h)
                · replace h := x_itp hc h
                  refine x_iconst C (0 : Int32) dX4_tellLaw_90 (by decide) ?_
                  obtain ⟨rfl, rfl⟩ := x_ret h
                  exact x_zret C rfl dX4_tellLaw_91
        · replace h := x_itp hc h
          refine x_aload_n C 0 dX4_tellLaw_50 rfl rfl ?_
          refine x_iconst C (2 : Int32) dX4_tellLaw_51 (by decide) ?_
          obtain ⟨v10, σ10, hc10, h⟩ := x_b_some h
          refine x_callV C (n := 1) (c_X4_fail hG hc10) kX_14 (by decide) rfl wd_727 wd_729 wd_14 wd_105 wd_730 (by decide +kernel) rfl ⟨Nat.le_of_ble_eq_true rfl, Nat.le_of_ble_eq_true rfl⟩ ⟨rfl, rfl⟩ rfl (Nat.le_of_ble_eq_true rfl) dX4_tellLaw_52 ?_
          obtain ⟨hg, h⟩ := x_gd_some h
          obtain ⟨rfl, rfl⟩ := x_ret h
          exact x_zret C (x_isz_n hg) dX4_tellLaw_55
set_option maxHeartbeats 4000000 in
set_option maxRecDepth 100000 in
theorem c_X4_tellLaw (hG : x_OK TX G) {x1 : Int32} {σ τ : x_Hp} {r : Int32} (h : F_X4_tellLaw x1 σ = some (r, τ)) : x_M l TX G yX4_tellLaw cX4_tellLaw 3 (some .boolean) rm_X4_tellLaw [.ref (x_ad G 14), .int x1] σ (some (.int r)) τ := by
  refine x_M.of hG (lv := [(0, .ref (x_ad G 14)), (1, .int x1)]) (by decide) (Nat.le_of_ble_eq_true rfl) rfl (fun p e s m below meth c C => ?_)
  rw [F_X4_tellLaw] at h
  refine x_aload_n C 0 dX4_tellLaw_0 rfl rfl ?_
  obtain ⟨v1, σ1, hc1, h⟩ := x_b_some h
  refine x_callV C (n := 0) (c_X4_take hG hc1) kX_14 (by decide) rfl wd_731 wd_733 wd_15 wd_105 wd_734 (by decide +kernel) rfl ⟨Nat.le_of_ble_eq_true rfl, Nat.le_of_ble_eq_true rfl⟩ ⟨rfl, rfl⟩ rfl (Nat.le_of_ble_eq_true rfl) dX4_tellLaw_1 ?_
  refine x_if_eq C 16 dX4_tellLaw_4 rfl (fun hc => ?_) (fun hc => ?_)
  · replace h := x_itp hc h
    refine x_iconst C (0 : Int32) dX4_tellLaw_16 (by decide) ?_
    obtain ⟨rfl, rfl⟩ := x_ret h
    exact x_zret C rfl dX4_tellLaw_17
  · replace h := x_itn hc h
    refine x_aload_n C 0 dX4_tellLaw_7 rfl rfl ?_
    refine x_bipush C (61 : Int32) dX4_tellLaw_8 (by decide) ?_
    obtain ⟨v2, σ2, hc2, h⟩ := x_b_some h
    refine x_callV C (n := 1) (c_X4_take_ hG hc2) kX_14 (by decide) rfl wd_747 wd_749 wd_18 wd_105 wd_750 (by decide +kernel) rfl ⟨Nat.le_of_ble_eq_true rfl, Nat.le_of_ble_eq_true rfl⟩ ⟨rfl, rfl⟩ rfl (Nat.le_of_ble_eq_true rfl) dX4_tellLaw_10 ?_
    refine x_if_ne C 18 dX4_tellLaw_13 rfl (fun hc => ?_) (fun hc => ?_)
    · replace h := x_itn hc h
      refine x_aload_n C 0 dX4_tellLaw_18 rfl rfl ?_
      refine x_getRq C (k := 12) kX_14 (by decide) rfl x_in4 (by decide) (by decide) rfl rfl wd_258 rfX_14_12 dX4_tellLaw_19 ?_
      refine x_getRq C (k := 14) kX_21 (by decide) rfl x_in6 (by decide) (by decide) rfl rfl wd_204 rfX_21_14 dX4_tellLaw_22 ?_
      refine x_iload_n C 1 dX4_tellLaw_25 rfl rfl ?_
      obtain ⟨v3, σ3, hc3, h⟩ := x_b_some h
      refine x_callV C (n := 1) (c_X1_beginLaw hG kX_28 hc3) kX_28 (by decide) rfl wd_770 wd_518 wd_519 wd_104 wd_520 (by decide +kernel) rfl ⟨Nat.le_of_ble_eq_true rfl, Nat.le_of_ble_eq_true rfl⟩ ⟨rfl, rfl⟩ rfl (Nat.le_of_ble_eq_true rfl) dX4_tellLaw_26 ?_
      refine x_iconst C (0 : Int32) dX4_tellLaw_29 (by decide) ?_
      refine x_istore_n C [(2, .int (0 : Int32)), (0, .ref (x_ad G 14)), (1, .int x1)] dX4_tellLaw_30 rfl (by decide) rfl ?_
      exact x_sub [1, 2, 0] rfl (w_X4_tellLaw_31 C x_fuel x1 (0 : Int32) σ3 h)
    · replace h := x_itp hc h
      refine x_iconst C (0 : Int32) dX4_tellLaw_16 (by decide) ?_
      obtain ⟨rfl, rfl⟩ := x_ret h
      exact x_zret C rfl dX4_tellLaw_17
abbrev rm_X4_tellNumber : Room := { frames := 4, cells := 0, slots := 0, locals := 87 }
set_option maxHeartbeats 4000000 in
set_option maxRecDepth 100000 in
theorem w_X4_tellNumber_83 {r : Int32} {τ : x_Hp} (C : x_C p s m args meth c cX4_tellNumber 3 (some .boolean) yX4_tellNumber.cls TX G) (σ : x_Hp) (h : F_X4_tellNumber_83 σ = some (r, τ)) : x_W p l e rm_X4_tellNumber s m args below meth c (MQ below (x_Q TX G (some (.int r)) τ) args s 0 0 (x_A TX G)) TX G 3 83 [(0, .ref (x_ad G 14))] [] σ := by
  have hG : x_OK TX G := C.2.2.2.2.2.2.2.2.1
  rw [F_X4_tellNumber_83] at h
  refine x_aload_n C 0 dX4_tellNumber_83 rfl rfl ?_
  refine x_bipush C (59 : Int32) dX4_tellNumber_84 (by decide) ?_
  obtain ⟨v7, σ7, hc7, h⟩ := x_b_some h
  refine x_callV C (n := 1) (c_X4_take_ hG hc7) kX_14 (by decide) rfl wd_747 wd_749 wd_18 wd_105 wd_750 (by decide +kernel) rfl ⟨Nat.le_of_ble_eq_true rfl, Nat.le_of_ble_eq_true rfl⟩ ⟨rfl, rfl⟩ rfl (Nat.le_of_ble_eq_true rfl) dX4_tellNumber_86 ?_
  obtain ⟨hg, h⟩ := x_gd_some h
  obtain ⟨rfl, rfl⟩ := x_ret h
  exact x_zret C (x_isz_n hg) dX4_tellNumber_89
set_option maxHeartbeats 4000000 in
set_option maxRecDepth 100000 in
theorem w_X4_tellNumber_24 {r : Int32} {τ : x_Hp} (C : x_C p s m args meth c cX4_tellNumber 3 (some .boolean) yX4_tellNumber.cls TX G) (x1 : Int32) (s0 : Int32) (s1 : Int32) (s2 : Int32) (σ : x_Hp) (h : F_X4_tellNumber_24 x1 s0 s1 s2 σ = some (r, τ)) : x_W p l e rm_X4_tellNumber s m args below meth c (MQ below (x_Q TX G (some (.int r)) τ) args s 0 0 (x_A TX G)) TX G 3 24 [(0, .ref (x_ad G 14)), (1, .int x1)] [.int s0, .int s1, .int s2, .ref (x_ad G 14)] σ := by
  have hG : x_OK TX G := C.2.2.2.2.2.2.2.2.1
  rw [F_X4_tellNumber_24] at h
  obtain ⟨v2, σ2, hc2, h⟩ := x_b_some h
  refine x_callV C (n := 3) (c_X4_takeNumbers hG hc2) kX_14 (by decide) rfl wd_751 wd_753 wd_19 wd_105 wd_754 (by decide +kernel) rfl ⟨Nat.le_of_ble_eq_true rfl, Nat.le_of_ble_eq_true rfl⟩ ⟨rfl, rfl⟩ rfl (Nat.le_of_ble_eq_true rfl) dX4_tellNumber_24 ?_
  refine x_if_ne C 32 dX4_tellNumber_27 rfl (fun hc => ?_) (fun hc => ?_)
  · replace h := x_itn hc h
    refine x_aload_n C 0 dX4_tellNumber_32 rfl rfl ?_
    refine x_getRq C (k := 7) kX_14 (by decide) rfl x_in4 (by decide) (by decide) rfl rfl wd_252 rfX_14_7 dX4_tellNumber_33 ?_
    refine x_iconst C (0 : Int32) dX4_tellNumber_36 (by decide) ?_
    obtain ⟨v3, σ3, hc3, h⟩ := x_b_some h
    refine x_callSN C (n := 2) (c_X8_at hG kX_19 hc3) nw_718 wd_541 wd_102 wd_542 (by decide +kernel) rfl ⟨Nat.le_of_ble_eq_true rfl, Nat.le_of_ble_eq_true rfl⟩ ⟨rfl, rfl⟩ rfl (Nat.le_of_ble_eq_true rfl) dX4_tellNumber_37 ?_
    refine x_istore_n C [(2, .int v3), (0, .ref (x_ad G 14)), (1, .int x1)] dX4_tellNumber_40 rfl (by decide) rfl ?_
    refine x_iload_n C 2 dX4_tellNumber_41 rfl rfl ?_
    refine x_bipush C (9 : Int32) dX4_tellNumber_42 (by decide) ?_
    refine x_icmp_ne C 58 dX4_tellNumber_44 rfl (fun hc => ?_) (fun hc => ?_)
    · replace h := x_itn hc h
      refine x_iload_n C 2 dX4_tellNumber_58 rfl rfl ?_
      refine x_bipush C (10 : Int32) dX4_tellNumber_59 (by decide) ?_
      refine x_icmp_ne C 75 dX4_tellNumber_61 rfl (fun hc => ?_) (fun hc => ?_)
      · replace h := x_itn hc h
        refine x_aload_n C 1 dX4_tellNumber_75 rfl rfl ?_
        refine x_getRq C (k := 12) kX_14 (by decide) rfl x_in4 (by decide) (by decide) rfl rfl wd_258 rfX_14_12 dX4_tellNumber_76 ?_
        refine x_iload_n C 0 dX4_tellNumber_79 rfl rfl ?_
        refine x_putI C (k := 6) tyX6 kX_21 (by decide) rfl x_in6 tyX6_ok nmX6 (by decide) (by decide) rfl rfl wd_182 rfl (tyX6_ok 6 (by decide)) rfl rfl dX4_tellNumber_80 (x_gen h fun σ4 h => ?_)
        exact x_sub [1] rfl (w_X4_tellNumber_83 C σ4 h)
      · replace h := x_itp hc h
        refine x_aload_n C 1 dX4_tellNumber_64 rfl rfl ?_
        refine x_getRq C (k := 12) kX_14 (by decide) rfl x_in4 (by decide) (by decide) rfl rfl wd_258 rfX_14_12 dX4_tellNumber_65 ?_
        refine x_iload_n C 0 dX4_tellNumber_68 rfl rfl ?_
        refine x_putI C (k := 5) tyX6 kX_21 (by decide) rfl x_in6 tyX6_ok nmX6 (by decide) (by decide) rfl rfl wd_178 rfl (tyX6_ok 5 (by decide)) rfl rfl dX4_tellNumber_69 (x_gen h fun σ5 h => ?_)
        refine x_goto C 83 dX4_tellNumber_72 rfl ?_
        exact x_sub [1] rfl (w_X4_tellNumber_83 C σ5 h)
    · replace h := x_itp hc h
      refine x_aload_n C 1 dX4_tellNumber_47 rfl rfl ?_
      refine x_getRq C (k := 12) kX_14 (by decide) rfl x_in4 (by decide) (by decide) rfl rfl wd_258 rfX_14_12 dX4_tellNumber_48 ?_
      refine x_iload_n C 0 dX4_tellNumber_51 rfl rfl ?_
      refine x_putI C (k := 4) tyX6 kX_21 (by decide) rfl x_in6 tyX6_ok nmX6 (by decide) (by decide) rfl rfl wd_174 rfl (tyX6_ok 4 (by decide)) rfl rfl dX4_tellNumber_52 (x_gen h fun σ6 h => ?_)
      refine x_goto C 83 dX4_tellNumber_55 rfl ?_
      exact x_sub [1] rfl (w_X4_tellNumber_83 C σ6 h)
  · replace h := x_itp hc h
    refine x_iconst C (0 : Int32) dX4_tellNumber_30 (by decide) ?_
    obtain ⟨rfl, rfl⟩ := x_ret h
    exact x_zret C rfl dX4_tellNumber_31
set_option maxHeartbeats 4000000 in
set_option maxRecDepth 100000 in
theorem c_X4_tellNumber (hG : x_OK TX G) {x1 : Int32} {σ τ : x_Hp} {r : Int32} (h : F_X4_tellNumber x1 σ = some (r, τ)) : x_M l TX G yX4_tellNumber cX4_tellNumber 3 (some .boolean) rm_X4_tellNumber [.ref (x_ad G 14), .int x1] σ (some (.int r)) τ := by
  refine x_M.of hG (lv := [(0, .ref (x_ad G 14)), (1, .int x1)]) (by decide) (Nat.le_of_ble_eq_true rfl) rfl (fun p e s m below meth c C => ?_)
  rw [F_X4_tellNumber] at h
  refine x_aload_n C 0 dX4_tellNumber_0 rfl rfl ?_
  obtain ⟨v1, σ1, hc1, h⟩ := x_b_some h
  refine x_callV C (n := 0) (c_X4_take hG hc1) kX_14 (by decide) rfl wd_731 wd_733 wd_15 wd_105 wd_734 (by decide +kernel) rfl ⟨Nat.le_of_ble_eq_true rfl, Nat.le_of_ble_eq_true rfl⟩ ⟨rfl, rfl⟩ rfl (Nat.le_of_ble_eq_true rfl) dX4_tellNumber_1 ?_
  refine x_if_eq C 30 dX4_tellNumber_4 rfl (fun hc => ?_) (fun hc => ?_)
  · replace h := x_itp hc h
    refine x_iconst C (0 : Int32) dX4_tellNumber_30 (by decide) ?_
    obtain ⟨rfl, rfl⟩ := x_ret h
    exact x_zret C rfl dX4_tellNumber_31
  · replace h := x_itn hc h
    refine x_aload_n C 0 dX4_tellNumber_7 rfl rfl ?_
    refine x_iconst C (0 : Int32) dX4_tellNumber_8 (by decide) ?_
    refine x_iconst C (1 : Int32) dX4_tellNumber_9 (by decide) ?_
    refine x_iload_n C 1 dX4_tellNumber_10 rfl rfl ?_
    refine x_bipush C (11 : Int32) dX4_tellNumber_11 (by decide) ?_
    refine x_icmp_ne C 22 dX4_tellNumber_13 rfl (fun hc => ?_) (fun hc => ?_)
    · replace h := x_itn hc h
      refine x_bipush C (99 : Int32) dX4_tellNumber_22 (by decide) ?_
      exact x_sub [0, 1] rfl (w_X4_tellNumber_24 C x1 (99 : Int32) (1 : Int32) (0 : Int32) σ1 h)
    · replace h := x_itp hc h
      refine x_sipush C (9999 : Int32) dX4_tellNumber_16 (by decide) ?_
      refine x_goto C 24 dX4_tellNumber_19 rfl ?_
      exact x_sub [0, 1] rfl (w_X4_tellNumber_24 C x1 (9999 : Int32) (1 : Int32) (0 : Int32) σ1 h)
abbrev rm_X4_tellOne : Room := { frames := 5, cells := 0, slots := 0, locals := 112 }
set_option maxHeartbeats 4000000 in
set_option maxRecDepth 100000 in
theorem w_X4_tellOne_61 {r : Int32} {τ : x_Hp} (C : x_C p s m args meth c cX4_tellOne 2 (some .boolean) yX4_tellOne.cls TX G) (x1 : Int32) (σ : x_Hp) (h : F_X4_tellOne_61 x1 σ = some (r, τ)) : x_W p l e rm_X4_tellOne s m args below meth c (MQ below (x_Q TX G (some (.int r)) τ) args s 0 0 (x_A TX G)) TX G 2 61 [(0, .ref (x_ad G 14)), (1, .int x1)] [] σ := by
  have hG : x_OK TX G := C.2.2.2.2.2.2.2.2.1
  rw [F_X4_tellOne_61] at h
  refine x_aload_n C 0 dX4_tellOne_61 rfl rfl ?_
  refine x_iload_n C 1 dX4_tellOne_62 rfl rfl ?_
  obtain ⟨v6, σ6, hc6, h⟩ := x_b_some h
  refine x_callV C (n := 1) (c_X4_tellNumber hG hc6) kX_14 (by decide) rfl wd_797 wd_799 wd_26 wd_105 wd_800 (by decide +kernel) rfl ⟨Nat.le_of_ble_eq_true rfl, Nat.le_of_ble_eq_true rfl⟩ ⟨rfl, rfl⟩ rfl (Nat.le_of_ble_eq_true rfl) dX4_tellOne_63 ?_
  obtain ⟨hg, h⟩ := x_gd_some h
  obtain ⟨rfl, rfl⟩ := x_ret h
  exact x_zret C (x_isz_n hg) dX4_tellOne_66
set_option maxHeartbeats 4000000 in
set_option maxRecDepth 100000 in
theorem w_X4_tellOne_43 {r : Int32} {τ : x_Hp} (C : x_C p s m args meth c cX4_tellOne 2 (some .boolean) yX4_tellOne.cls TX G) (x1 : Int32) (σ : x_Hp) (h : F_X4_tellOne_43 x1 σ = some (r, τ)) : x_W p l e rm_X4_tellOne s m args below meth c (MQ below (x_Q TX G (some (.int r)) τ) args s 0 0 (x_A TX G)) TX G 2 43 [(0, .ref (x_ad G 14)), (1, .int x1)] [] σ := by
  have hG : x_OK TX G := C.2.2.2.2.2.2.2.2.1
  rw [F_X4_tellOne_43] at h
  refine x_iload_n C 1 dX4_tellOne_43 rfl rfl ?_
  refine x_bipush C (9 : Int32) dX4_tellOne_44 (by decide) ?_
  refine x_icmp_eq C 61 dX4_tellOne_46 rfl (fun hc => ?_) (fun hc => ?_)
  · replace h := x_itp hc h
    exact x_sub [0, 1] rfl (w_X4_tellOne_61 C x1 σ h)
  · replace h := x_itn hc h
    refine x_iload_n C 1 dX4_tellOne_49 rfl rfl ?_
    refine x_bipush C (10 : Int32) dX4_tellOne_50 (by decide) ?_
    refine x_icmp_eq C 61 dX4_tellOne_52 rfl (fun hc => ?_) (fun hc => ?_)
    · replace h := x_itp hc h
      exact x_sub [0, 1] rfl (w_X4_tellOne_61 C x1 σ h)
    · replace h := x_itn hc h
      refine x_iload_n C 1 dX4_tellOne_55 rfl rfl ?_
      refine x_bipush C (11 : Int32) dX4_tellOne_56 (by decide) ?_
      refine x_icmp_ne C 67 dX4_tellOne_58 rfl (fun hc => ?_) (fun hc => ?_)
      · replace h := x_itn hc h
        refine x_aload_n C 0 dX4_tellOne_67 rfl rfl ?_
        refine x_iconst C (1 : Int32) dX4_tellOne_68 (by decide) ?_
        obtain ⟨v5, σ5, hc5, h⟩ := x_b_some h
        refine x_callV C (n := 1) (c_X4_fail hG hc5) kX_14 (by decide) rfl wd_727 wd_729 wd_14 wd_105 wd_730 (by decide +kernel) rfl ⟨Nat.le_of_ble_eq_true rfl, Nat.le_of_ble_eq_true rfl⟩ ⟨rfl, rfl⟩ rfl (Nat.le_of_ble_eq_true rfl) dX4_tellOne_69 ?_
        obtain ⟨hg, h⟩ := x_gd_some h
        obtain ⟨rfl, rfl⟩ := x_ret h
        exact x_zret C (x_isz_n hg) dX4_tellOne_72
      · replace h := x_itp hc h
        exact x_sub [0, 1] rfl (w_X4_tellOne_61 C x1 σ h)
set_option maxHeartbeats 4000000 in
set_option maxRecDepth 100000 in
theorem c_X4_tellOne (hG : x_OK TX G) {σ τ : x_Hp} {r : Int32} (h : F_X4_tellOne σ = some (r, τ)) : x_M l TX G yX4_tellOne cX4_tellOne 2 (some .boolean) rm_X4_tellOne [.ref (x_ad G 14)] σ (some (.int r)) τ := by
  refine x_M.of hG (lv := [(0, .ref (x_ad G 14))]) (by decide) (Nat.le_of_ble_eq_true rfl) rfl (fun p e s m below meth c C => ?_)
  rw [F_X4_tellOne] at h
  refine x_aload_n C 0 dX4_tellOne_0 rfl rfl ?_
  obtain ⟨v1, σ1, hc1, h⟩ := x_b_some h
  refine x_callV C (n := 0) (c_X4_kind hG hc1) kX_14 (by decide) rfl wd_714 wd_716 wd_11 wd_105 wd_717 (by decide +kernel) rfl ⟨Nat.le_of_ble_eq_true rfl, Nat.le_of_ble_eq_true rfl⟩ ⟨rfl, rfl⟩ rfl (Nat.le_of_ble_eq_true rfl) dX4_tellOne_1 ?_
  refine x_istore_n C [(1, .int v1), (0, .ref (x_ad G 14))] dX4_tellOne_4 rfl (by decide) rfl ?_
  refine x_iload_n C 0 dX4_tellOne_5 rfl rfl ?_
  refine x_iconst C (1 : Int32) dX4_tellOne_6 (by decide) ?_
  refine x_icmp_ne C 15 dX4_tellOne_7 rfl (fun hc => ?_) (fun hc => ?_)
  · replace h := x_itn hc h
    refine x_iload_n C 0 dX4_tellOne_15 rfl rfl ?_
    refine x_if_ne C 24 dX4_tellOne_16 rfl (fun hc => ?_) (fun hc => ?_)
    · replace h := x_itn hc h
      refine x_iload_n C 0 dX4_tellOne_24 rfl rfl ?_
      refine x_iconst C (2 : Int32) dX4_tellOne_25 (by decide) ?_
      refine x_icmp_lt C 43 dX4_tellOne_26 rfl (fun hc => ?_) (fun hc => ?_)
      · replace h := x_itp hc h
        exact x_sub [1, 0] rfl (w_X4_tellOne_43 C v1 σ1 h)
      · replace h := x_itn hc h
        refine x_iload_n C 0 dX4_tellOne_29 rfl rfl ?_
        refine x_bipush C (9 : Int32) dX4_tellOne_30 (by decide) ?_
        refine x_icmp_ge C 43 dX4_tellOne_32 rfl (fun hc => ?_) (fun hc => ?_)
        · replace h := x_itp hc h
          exact x_sub [1, 0] rfl (w_X4_tellOne_43 C v1 σ1 h)
        · replace h := x_itn hc h
          refine x_aload_n C 1 dX4_tellOne_35 rfl rfl ?_
          refine x_iload_n C 0 dX4_tellOne_36 rfl rfl ?_
          refine x_iconst C (2 : Int32) dX4_tellOne_37 (by decide) ?_
          refine x_isub C dX4_tellOne_38 ?_
          obtain ⟨v2, σ2, hc2, h⟩ := x_b_some h
          refine x_callV C (n := 1) (c_X4_tellLaw hG hc2) kX_14 (by decide) rfl wd_766 wd_768 wd_21 wd_105 wd_769 (by decide +kernel) rfl ⟨Nat.le_of_ble_eq_true rfl, Nat.le_of_ble_eq_true rfl⟩ ⟨rfl, rfl⟩ rfl (Nat.le_of_ble_eq_true rfl) dX4_tellOne_39 ?_
          obtain ⟨hg, h⟩ := x_gd_some h
          obtain ⟨rfl, rfl⟩ := x_ret h
          exact x_zret C (x_isz_n hg) dX4_tellOne_42
    · replace h := x_itp hc h
      refine x_aload_n C 1 dX4_tellOne_19 rfl rfl ?_
      obtain ⟨v3, σ3, hc3, h⟩ := x_b_some h
      refine x_callV C (n := 0) (c_X4_tellBaby hG hc3) kX_14 (by decide) rfl wd_761 wd_763 wd_20 wd_105 wd_764 (by decide +kernel) rfl ⟨Nat.le_of_ble_eq_true rfl, Nat.le_of_ble_eq_true rfl⟩ ⟨rfl, rfl⟩ rfl (Nat.le_of_ble_eq_true rfl) dX4_tellOne_20 ?_
      obtain ⟨hg, h⟩ := x_gd_some h
      obtain ⟨rfl, rfl⟩ := x_ret h
      exact x_zret C (x_isz_n hg) dX4_tellOne_23
  · replace h := x_itp hc h
    refine x_aload_n C 1 dX4_tellOne_10 rfl rfl ?_
    obtain ⟨v4, σ4, hc4, h⟩ := x_b_some h
    refine x_callV C (n := 0) (c_X4_tellAunt hG hc4) kX_14 (by decide) rfl wd_723 wd_725 wd_13 wd_105 wd_726 (by decide +kernel) rfl ⟨Nat.le_of_ble_eq_true rfl, Nat.le_of_ble_eq_true rfl⟩ ⟨rfl, rfl⟩ rfl (Nat.le_of_ble_eq_true rfl) dX4_tellOne_11 ?_
    obtain ⟨hg, h⟩ := x_gd_some h
    obtain ⟨rfl, rfl⟩ := x_ret h
    exact x_zret C (x_isz_n hg) dX4_tellOne_14
abbrev rm_X6_begin : Room := { frames := 3, cells := 0, slots := 0, locals := 64 }
set_option maxHeartbeats 4000000 in
set_option maxRecDepth 100000 in
theorem c_X6_begin (hG : x_OK TX G) {o : Nat} {σ τ : x_Hp} (hk_o : x_kd TX o = 6) (h : F_X6_begin o σ = some ((), τ)) : x_M l TX G yX6_begin cX6_begin 1 none rm_X6_begin [.ref (x_ad G o)] σ none τ := by
  refine x_M.of hG (lv := [(0, .ref (x_ad G o))]) (by decide) (Nat.le_of_ble_eq_true rfl) rfl (fun p e s m below meth c C => ?_)
  rw [F_X6_begin] at h
  refine x_aload_n C 0 dX6_begin_0 rfl rfl ?_
  refine x_iconst C (0 : Int32) dX6_begin_1 (by decide) ?_
  refine x_iconst C (0 : Int32) dX6_begin_2 (by decide) ?_
  refine x_iconst C (0 : Int32) dX6_begin_3 (by decide) ?_
  refine x_iconst C (0 : Int32) dX6_begin_4 (by decide) ?_
  obtain ⟨v1, σ1, hc1, h⟩ := x_b_some h
  refine x_callV C (n := 4) (c_X6_tellBaby hG hk_o hc1) hk_o (by decide) rfl wd_509 wd_510 wd_511 wd_103 wd_512 (by decide +kernel) rfl ⟨Nat.le_of_ble_eq_true rfl, Nat.le_of_ble_eq_true rfl⟩ ⟨rfl, rfl⟩ rfl (Nat.le_of_ble_eq_true rfl) dX6_begin_5 ?_
  refine x_aload_n C 0 dX6_begin_8 rfl rfl ?_
  refine x_bipush C (20 : Int32) dX6_begin_9 (by decide) ?_
  refine x_putI C (k := 4) tyX6 hk_o (by decide) rfl x_in6 tyX6_ok nmX6 (by decide) (by decide) rfl rfl wd_172 rfl (tyX6_ok 4 (by decide)) rfl rfl dX6_begin_11 (x_gen h fun σ2 h => ?_)
  refine x_aload_n C 0 dX6_begin_14 rfl rfl ?_
  refine x_bipush C (30 : Int32) dX6_begin_15 (by decide) ?_
  refine x_putI C (k := 5) tyX6 hk_o (by decide) rfl x_in6 tyX6_ok nmX6 (by decide) (by decide) rfl rfl wd_176 rfl (tyX6_ok 5 (by decide)) rfl rfl dX6_begin_17 (x_gen h fun σ3 h => ?_)
  refine x_aload_n C 0 dX6_begin_20 rfl rfl ?_
  refine x_iconst C (0 : Int32) dX6_begin_21 (by decide) ?_
  refine x_putI C (k := 6) tyX6 hk_o (by decide) rfl x_in6 tyX6_ok nmX6 (by decide) (by decide) rfl rfl wd_180 rfl (tyX6_ok 6 (by decide)) rfl rfl dX6_begin_22 (x_gen h fun σ4 h => ?_)
  refine x_aload_n C 0 dX6_begin_25 rfl rfl ?_
  refine x_iconst C (0 : Int32) dX6_begin_26 (by decide) ?_
  refine x_putI C (k := 7) tyX6 hk_o (by decide) rfl x_in6 tyX6_ok nmX6 (by decide) (by decide) rfl rfl wd_184 rfl (tyX6_ok 7 (by decide)) rfl rfl dX6_begin_27 (x_gen h fun σ5 h => ?_)
  refine x_aload_n C 0 dX6_begin_30 rfl rfl ?_
  refine x_getR C (k := 14) hk_o (by decide) rfl x_in6 (by decide) (by decide) rfl rfl wd_201 dX6_begin_31 ?_
  obtain ⟨v6, σ6, hc6, h⟩ := x_b_some h
  refine x_callV C (n := 0) (c_X1_begin hG (t_TX_6_14 hk_o) hc6) (t_TX_6_14 hk_o) (by decide) rfl wd_513 wd_514 wd_515 wd_104 wd_516 (by decide +kernel) rfl ⟨Nat.le_of_ble_eq_true rfl, Nat.le_of_ble_eq_true rfl⟩ ⟨rfl, rfl⟩ rfl (Nat.le_of_ble_eq_true rfl) dX6_begin_34 ?_
  obtain ⟨-, rfl⟩ := x_ret h
  exact x_vret C dX6_begin_37
abbrev rm_X4_readTape : Room := { frames := 8, cells := 0, slots := 0, locals := 182 }
set_option maxHeartbeats 4000000 in
set_option maxRecDepth 100000 in
theorem w_X4_readTape_61 {r : Int32} {τ : x_Hp} (C : x_C p s m args meth c cX4_readTape 3 (some .int) yX4_readTape.cls TX G) (σ : x_Hp) (h : F_X4_readTape_61 σ = some (r, τ)) : x_W p l e rm_X4_readTape s m args below meth c (MQ below (x_Q TX G (some (.int r)) τ) args s 0 0 (x_A TX G)) TX G 3 61 [(0, .ref (x_ad G 14))] [] σ := by
  have hG : x_OK TX G := C.2.2.2.2.2.2.2.2.1
  rw [F_X4_readTape_61] at h
  refine x_aload_n C 0 dX4_readTape_61 rfl rfl ?_
  refine x_iconst C (0 : Int32) dX4_readTape_62 (by decide) ?_
  refine x_putI C (k := 1) tyX4 kX_14 (by decide) rfl x_in4 tyX4_ok nmX4 (by decide) (by decide) rfl rfl wd_245 rfl (tyX4_ok 1 (by decide)) rfl rfl dX4_readTape_63 (x_gen h fun σ8 h => ?_)
  refine x_aload_n C 0 dX4_readTape_66 rfl rfl ?_
  refine x_getI C (k := 10) kX_14 (by decide) rfl x_in4 (by decide) (by decide) rfl rfl wd_255 dX4_readTape_67 ?_
  obtain ⟨rfl, rfl⟩ := x_ret h
  exact x_iret C dX4_readTape_70
set_option maxHeartbeats 4000000 in
set_option maxRecDepth 100000 in
theorem w_X4_readTape_30 {r : Int32} {τ : x_Hp} (C : x_C p s m args meth c cX4_readTape 3 (some .int) yX4_readTape.cls TX G) : ∀ (n : Nat) (x1 : Int32) (x2 : Int32) (σ : x_Hp) (h : F_X4_readTape_30 n x1 x2 σ = some (r, τ)), x_W p l e rm_X4_readTape s m args below meth c (MQ below (x_Q TX G (some (.int r)) τ) args s 0 0 (x_A TX G)) TX G 3 30 [(0, .ref (x_ad G 14)), (1, .int x1), (2, .int x2)] [] σ := by
  intro n
  induction n with
  | zero => intro x1 x2 σ  h; cases h
  | succ n ih =>
    intro x1 x2 σ  h
    have hG : x_OK TX G := C.2.2.2.2.2.2.2.2.1
    rw [F_X4_readTape_30] at h
    refine x_iload_n C 2 dX4_readTape_30 rfl rfl ?_
    refine x_sipush C (400 : Int32) dX4_readTape_31 (by decide) ?_
    refine x_icmp_gt C 61 dX4_readTape_34 rfl (fun hc => ?_) (fun hc => ?_)
    · replace h := x_itp hc h
      exact x_sub [0] rfl (w_X4_readTape_61 C σ h)
    · replace h := x_itn hc h
      refine x_iload_n C 1 dX4_readTape_37 rfl rfl ?_
      refine x_if_eq C 61 dX4_readTape_38 rfl (fun hc => ?_) (fun hc => ?_)
      · replace h := x_itp hc h
        exact x_sub [0] rfl (w_X4_readTape_61 C σ h)
      · replace h := x_itn hc h
        refine x_aload_n C 0 dX4_readTape_41 rfl rfl ?_
        obtain ⟨v6, σ6, hc6, h⟩ := x_b_some h
        refine x_callV C (n := 0) (c_X4_kind hG hc6) kX_14 (by decide) rfl wd_714 wd_716 wd_11 wd_105 wd_717 (by decide +kernel) rfl ⟨Nat.le_of_ble_eq_true rfl, Nat.le_of_ble_eq_true rfl⟩ ⟨rfl, rfl⟩ rfl (Nat.le_of_ble_eq_true rfl) dX4_readTape_42 ?_
        refine x_bipush C (32 : Int32) dX4_readTape_45 (by decide) ?_
        refine x_icmp_eq C 61 dX4_readTape_47 rfl (fun hc => ?_) (fun hc => ?_)
        · replace h := x_itp hc h
          exact x_sub [0] rfl (w_X4_readTape_61 C σ6 h)
        · replace h := x_itn hc h
          refine x_aload_n C 0 dX4_readTape_50 rfl rfl ?_
          obtain ⟨v7, σ7, hc7, h⟩ := x_b_some h
          refine x_callV C (n := 0) (c_X4_tellOne hG hc7) kX_14 (by decide) rfl wd_719 wd_721 wd_12 wd_105 wd_722 (by decide +kernel) rfl ⟨Nat.le_of_ble_eq_true rfl, Nat.le_of_ble_eq_true rfl⟩ ⟨rfl, rfl⟩ rfl (Nat.le_of_ble_eq_true rfl) dX4_readTape_51 ?_
          refine x_istore_n C [(1, .int v7), (0, .ref (x_ad G 14)), (2, .int x2)] dX4_readTape_54 rfl (by decide) rfl ?_
          refine x_iinc C 2 (x2 + (1 : Int32)) [(2, .int (x2 + (1 : Int32))), (1, .int v7), (0, .ref (x_ad G 14))] dX4_readTape_55 rfl rfl (by decide) rfl ?_
          refine x_goto C 30 dX4_readTape_58 rfl ?_
          exact x_sub [2, 1, 0] rfl (ih v7 (x2 + (1 : Int32)) σ7 h)
set_option maxHeartbeats 4000000 in
set_option maxRecDepth 100000 in
theorem c_X4_readTape (hG : x_OK TX G) {σ τ : x_Hp} {r : Int32} (h : F_X4_readTape σ = some (r, τ)) : x_M l TX G yX4_readTape cX4_readTape 3 (some .int) rm_X4_readTape [.ref (x_ad G 14)] σ (some (.int r)) τ := by
  refine x_M.of hG (lv := [(0, .ref (x_ad G 14))]) (by decide) (Nat.le_of_ble_eq_true rfl) rfl (fun p e s m below meth c C => ?_)
  rw [F_X4_readTape] at h
  refine x_aload_n C 0 dX4_readTape_0 rfl rfl ?_
  refine x_iconst C (0 : Int32) dX4_readTape_1 (by decide) ?_
  refine x_putI C (k := 10) tyX4 kX_14 (by decide) rfl x_in4 tyX4_ok nmX4 (by decide) (by decide) rfl rfl wd_255 rfl (tyX4_ok 10 (by decide)) rfl rfl dX4_readTape_2 (x_gen h fun σ1 h => ?_)
  refine x_aload_n C 0 dX4_readTape_5 rfl rfl ?_
  refine x_iconst C (-1 : Int32) dX4_readTape_6 (by decide) ?_
  refine x_putI C (k := 11) tyX4 kX_14 (by decide) rfl x_in4 tyX4_ok nmX4 (by decide) (by decide) rfl rfl wd_256 rfl (tyX4_ok 11 (by decide)) rfl rfl dX4_readTape_7 (x_gen h fun σ2 h => ?_)
  refine x_aload_n C 0 dX4_readTape_10 rfl rfl ?_
  refine x_getRq C (k := 12) kX_14 (by decide) rfl x_in4 (by decide) (by decide) rfl rfl wd_258 rfX_14_12 dX4_readTape_11 ?_
  obtain ⟨v3, σ3, hc3, h⟩ := x_b_some h
  refine x_callV C (n := 0) (c_X6_begin hG kX_21 hc3) kX_21 (by decide) rfl wd_614 wd_506 wd_507 wd_103 wd_508 (by decide +kernel) rfl ⟨Nat.le_of_ble_eq_true rfl, Nat.le_of_ble_eq_true rfl⟩ ⟨rfl, rfl⟩ rfl (Nat.le_of_ble_eq_true rfl) dX4_readTape_14 ?_
  refine x_aload_n C 0 dX4_readTape_17 rfl rfl ?_
  obtain ⟨v4, σ4, hc4, h⟩ := x_b_some h
  refine x_callV C (n := 0) (c_X4_scan hG hc4) kX_14 (by decide) rfl wd_615 wd_617 wd_2 wd_105 wd_618 (by decide +kernel) rfl ⟨Nat.le_of_ble_eq_true rfl, Nat.le_of_ble_eq_true rfl⟩ ⟨rfl, rfl⟩ rfl (Nat.le_of_ble_eq_true rfl) dX4_readTape_18 ?_
  refine x_aload_n C 0 dX4_readTape_21 rfl rfl ?_
  refine x_iconst C (0 : Int32) dX4_readTape_22 (by decide) ?_
  refine x_putI C (k := 6) tyX4 kX_14 (by decide) rfl x_in4 tyX4_ok nmX4 (by decide) (by decide) rfl rfl wd_251 rfl (tyX4_ok 6 (by decide)) rfl rfl dX4_readTape_23 (x_gen h fun σ5 h => ?_)
  refine x_iconst C (1 : Int32) dX4_readTape_26 (by decide) ?_
  refine x_istore_n C [(1, .int (1 : Int32)), (0, .ref (x_ad G 14))] dX4_readTape_27 rfl (by decide) rfl ?_
  refine x_iconst C (0 : Int32) dX4_readTape_28 (by decide) ?_
  refine x_istore_n C [(2, .int (0 : Int32)), (1, .int (1 : Int32)), (0, .ref (x_ad G 14))] dX4_readTape_29 rfl (by decide) rfl ?_
  exact x_sub [2, 1, 0] rfl (w_X4_readTape_30 C x_fuel (1 : Int32) (0 : Int32) σ5 h)
abbrev rm_X6_takeFrom : Room := { frames := 2, cells := 0, slots := 0, locals := 43 }
set_option maxHeartbeats 4000000 in
set_option maxRecDepth 100000 in
theorem c_X6_takeFrom (hG : x_OK TX G) {o : Nat} {r1 : Nat} {σ τ : x_Hp} (hk_o : x_kd TX o = 6) (hk_r1 : x_kd TX r1 = 6) (h : F_X6_takeFrom o r1 σ = some ((), τ)) : x_M l TX G yX6_takeFrom cX6_takeFrom 2 none rm_X6_takeFrom [.ref (x_ad G o), .ref (x_ad G r1)] σ none τ := by
  refine x_M.of hG (lv := [(0, .ref (x_ad G o)), (1, .ref (x_ad G r1))]) (by decide) (Nat.le_of_ble_eq_true rfl) rfl (fun p e s m below meth c C => ?_)
  rw [F_X6_takeFrom] at h
  refine x_aload_n C 0 dX6_takeFrom_0 rfl rfl ?_
  refine x_aload_n C 1 dX6_takeFrom_1 rfl rfl ?_
  refine x_getI C (k := 0) hk_r1 (by decide) rfl x_in6 (by decide) (by decide) rfl rfl wd_165 dX6_takeFrom_2 ?_
  refine x_aload_n C 1 dX6_takeFrom_5 rfl rfl ?_
  refine x_getI C (k := 1) hk_r1 (by decide) rfl x_in6 (by decide) (by decide) rfl rfl wd_167 dX6_takeFrom_6 ?_
  refine x_aload_n C 1 dX6_takeFrom_9 rfl rfl ?_
  refine x_getI C (k := 2) hk_r1 (by decide) rfl x_in6 (by decide) (by decide) rfl rfl wd_169 dX6_takeFrom_10 ?_
  refine x_aload_n C 1 dX6_takeFrom_13 rfl rfl ?_
  refine x_getI C (k := 3) hk_r1 (by decide) rfl x_in6 (by decide) (by decide) rfl rfl wd_171 dX6_takeFrom_14 ?_
  obtain ⟨v1, σ1, hc1, h⟩ := x_b_some h
  refine x_callV C (n := 4) (c_X6_tellBaby hG hk_o hc1) hk_o (by decide) rfl wd_509 wd_510 wd_511 wd_103 wd_512 (by decide +kernel) rfl ⟨Nat.le_of_ble_eq_true rfl, Nat.le_of_ble_eq_true rfl⟩ ⟨rfl, rfl⟩ rfl (Nat.le_of_ble_eq_true rfl) dX6_takeFrom_17 ?_
  refine x_aload_n C 0 dX6_takeFrom_20 rfl rfl ?_
  refine x_aload_n C 1 dX6_takeFrom_21 rfl rfl ?_
  refine x_getI C (k := 4) hk_r1 (by decide) rfl x_in6 (by decide) (by decide) rfl rfl wd_172 dX6_takeFrom_22 ?_
  refine x_putI C (k := 4) tyX6 hk_o (by decide) rfl x_in6 tyX6_ok nmX6 (by decide) (by decide) rfl rfl wd_172 rfl (tyX6_ok 4 (by decide)) rfl rfl dX6_takeFrom_25 (x_gen h fun σ2 h => ?_)
  refine x_aload_n C 0 dX6_takeFrom_28 rfl rfl ?_
  refine x_aload_n C 1 dX6_takeFrom_29 rfl rfl ?_
  refine x_getI C (k := 5) hk_r1 (by decide) rfl x_in6 (by decide) (by decide) rfl rfl wd_176 dX6_takeFrom_30 ?_
  refine x_putI C (k := 5) tyX6 hk_o (by decide) rfl x_in6 tyX6_ok nmX6 (by decide) (by decide) rfl rfl wd_176 rfl (tyX6_ok 5 (by decide)) rfl rfl dX6_takeFrom_33 (x_gen h fun σ3 h => ?_)
  refine x_aload_n C 0 dX6_takeFrom_36 rfl rfl ?_
  refine x_aload_n C 1 dX6_takeFrom_37 rfl rfl ?_
  refine x_getI C (k := 6) hk_r1 (by decide) rfl x_in6 (by decide) (by decide) rfl rfl wd_180 dX6_takeFrom_38 ?_
  refine x_putI C (k := 6) tyX6 hk_o (by decide) rfl x_in6 tyX6_ok nmX6 (by decide) (by decide) rfl rfl wd_180 rfl (tyX6_ok 6 (by decide)) rfl rfl dX6_takeFrom_41 (x_gen h fun σ4 h => ?_)
  refine x_aload_n C 0 dX6_takeFrom_44 rfl rfl ?_
  refine x_aload_n C 1 dX6_takeFrom_45 rfl rfl ?_
  refine x_getI C (k := 7) hk_r1 (by decide) rfl x_in6 (by decide) (by decide) rfl rfl wd_184 dX6_takeFrom_46 ?_
  refine x_putI C (k := 7) tyX6 hk_o (by decide) rfl x_in6 tyX6_ok nmX6 (by decide) (by decide) rfl rfl wd_184 rfl (tyX6_ok 7 (by decide)) rfl rfl dX6_takeFrom_49 (x_gen h fun σ5 h => ?_)
  refine x_aload_n C 1 dX6_takeFrom_52 rfl rfl ?_
  refine x_getR C (k := 9) hk_r1 (by decide) rfl x_in6 (by decide) (by decide) rfl rfl wd_190 dX6_takeFrom_53 ?_
  refine x_aload_n C 0 dX6_takeFrom_56 rfl rfl ?_
  refine x_getR C (k := 9) hk_o (by decide) rfl x_in6 (by decide) (by decide) rfl rfl wd_190 dX6_takeFrom_57 ?_
  obtain ⟨v6, σ6, hc6, h⟩ := x_b_some h
  refine x_callSN C (n := 2) (c_X8_copy hG (t_TX_6_9 hk_r1) (t_TX_6_9 hk_o) hc6) nw_805 wd_806 wd_102 wd_807 (by decide +kernel) rfl ⟨Nat.le_of_ble_eq_true rfl, Nat.le_of_ble_eq_true rfl⟩ ⟨rfl, rfl⟩ rfl (Nat.le_of_ble_eq_true rfl) dX6_takeFrom_60 ?_
  refine x_aload_n C 1 dX6_takeFrom_63 rfl rfl ?_
  refine x_getR C (k := 10) hk_r1 (by decide) rfl x_in6 (by decide) (by decide) rfl rfl wd_193 dX6_takeFrom_64 ?_
  refine x_aload_n C 0 dX6_takeFrom_67 rfl rfl ?_
  refine x_getR C (k := 10) hk_o (by decide) rfl x_in6 (by decide) (by decide) rfl rfl wd_193 dX6_takeFrom_68 ?_
  obtain ⟨v7, σ7, hc7, h⟩ := x_b_some h
  refine x_callSN C (n := 2) (c_X8_copy hG (t_TX_6_10 hk_r1) (t_TX_6_10 hk_o) hc7) nw_805 wd_806 wd_102 wd_807 (by decide +kernel) rfl ⟨Nat.le_of_ble_eq_true rfl, Nat.le_of_ble_eq_true rfl⟩ ⟨rfl, rfl⟩ rfl (Nat.le_of_ble_eq_true rfl) dX6_takeFrom_71 ?_
  refine x_aload_n C 1 dX6_takeFrom_74 rfl rfl ?_
  refine x_getR C (k := 11) hk_r1 (by decide) rfl x_in6 (by decide) (by decide) rfl rfl wd_195 dX6_takeFrom_75 ?_
  refine x_aload_n C 0 dX6_takeFrom_78 rfl rfl ?_
  refine x_getR C (k := 11) hk_o (by decide) rfl x_in6 (by decide) (by decide) rfl rfl wd_195 dX6_takeFrom_79 ?_
  obtain ⟨v8, σ8, hc8, h⟩ := x_b_some h
  refine x_callSN C (n := 2) (c_X8_copy hG (t_TX_6_11 hk_r1) (t_TX_6_11 hk_o) hc8) nw_805 wd_806 wd_102 wd_807 (by decide +kernel) rfl ⟨Nat.le_of_ble_eq_true rfl, Nat.le_of_ble_eq_true rfl⟩ ⟨rfl, rfl⟩ rfl (Nat.le_of_ble_eq_true rfl) dX6_takeFrom_82 ?_
  refine x_aload_n C 1 dX6_takeFrom_85 rfl rfl ?_
  refine x_getR C (k := 12) hk_r1 (by decide) rfl x_in6 (by decide) (by decide) rfl rfl wd_197 dX6_takeFrom_86 ?_
  refine x_aload_n C 0 dX6_takeFrom_89 rfl rfl ?_
  refine x_getR C (k := 12) hk_o (by decide) rfl x_in6 (by decide) (by decide) rfl rfl wd_197 dX6_takeFrom_90 ?_
  obtain ⟨v9, σ9, hc9, h⟩ := x_b_some h
  refine x_callSN C (n := 2) (c_X8_copy hG (t_TX_6_12 hk_r1) (t_TX_6_12 hk_o) hc9) nw_805 wd_806 wd_102 wd_807 (by decide +kernel) rfl ⟨Nat.le_of_ble_eq_true rfl, Nat.le_of_ble_eq_true rfl⟩ ⟨rfl, rfl⟩ rfl (Nat.le_of_ble_eq_true rfl) dX6_takeFrom_93 ?_
  refine x_aload_n C 1 dX6_takeFrom_96 rfl rfl ?_
  refine x_getR C (k := 13) hk_r1 (by decide) rfl x_in6 (by decide) (by decide) rfl rfl wd_199 dX6_takeFrom_97 ?_
  refine x_aload_n C 0 dX6_takeFrom_100 rfl rfl ?_
  refine x_getR C (k := 13) hk_o (by decide) rfl x_in6 (by decide) (by decide) rfl rfl wd_199 dX6_takeFrom_101 ?_
  obtain ⟨v10, σ10, hc10, h⟩ := x_b_some h
  refine x_callSN C (n := 2) (c_X8_copy hG (t_TX_6_13 hk_r1) (t_TX_6_13 hk_o) hc10) nw_805 wd_806 wd_102 wd_807 (by decide +kernel) rfl ⟨Nat.le_of_ble_eq_true rfl, Nat.le_of_ble_eq_true rfl⟩ ⟨rfl, rfl⟩ rfl (Nat.le_of_ble_eq_true rfl) dX6_takeFrom_104 ?_
  refine x_aload_n C 0 dX6_takeFrom_107 rfl rfl ?_
  refine x_getR C (k := 14) hk_o (by decide) rfl x_in6 (by decide) (by decide) rfl rfl wd_201 dX6_takeFrom_108 ?_
  refine x_aload_n C 1 dX6_takeFrom_111 rfl rfl ?_
  refine x_getR C (k := 14) hk_r1 (by decide) rfl x_in6 (by decide) (by decide) rfl rfl wd_201 dX6_takeFrom_112 ?_
  obtain ⟨v11, σ11, hc11, h⟩ := x_b_some h
  refine x_callV C (n := 1) (c_X1_takeFrom hG (t_TX_6_14 hk_o) (t_TX_6_14 hk_r1) hc11) (t_TX_6_14 hk_o) (by decide) rfl wd_808 wd_809 wd_810 wd_104 wd_811 (by decide +kernel) rfl ⟨Nat.le_of_ble_eq_true rfl, Nat.le_of_ble_eq_true rfl⟩ ⟨rfl, rfl⟩ rfl (Nat.le_of_ble_eq_true rfl) dX6_takeFrom_115 ?_
  obtain ⟨-, rfl⟩ := x_ret h
  exact x_vret C dX6_takeFrom_118
abbrev rm_X7_begin : Room := { frames := 0, cells := 0, slots := 0, locals := 0 }
set_option maxHeartbeats 4000000 in
set_option maxRecDepth 100000 in
theorem c_X7_begin (hG : x_OK TX G) {σ τ : x_Hp} (h : F_X7_begin σ = some ((), τ)) : x_M l TX G yX7_begin cX7_begin 1 none rm_X7_begin [.ref (x_ad G 39)] σ none τ := by
  refine x_M.of hG (lv := [(0, .ref (x_ad G 39))]) (by decide) (Nat.le_of_ble_eq_true rfl) rfl (fun p e s m below meth c C => ?_)
  rw [F_X7_begin] at h
  refine x_aload_n C 0 dX7_begin_0 rfl rfl ?_
  refine x_iconst C (0 : Int32) dX7_begin_1 (by decide) ?_
  refine x_putI C (k := 1) tyX7 kX_39 (by decide) rfl x_in7 tyX7_ok nmX7 (by decide) (by decide) rfl rfl wd_419 rfl (tyX7_ok 1 (by decide)) rfl rfl dX7_begin_2 (x_gen h fun σ1 h => ?_)
  refine x_aload_n C 0 dX7_begin_5 rfl rfl ?_
  refine x_iconst C (0 : Int32) dX7_begin_6 (by decide) ?_
  refine x_putI C (k := 2) tyX7 kX_39 (by decide) rfl x_in7 tyX7_ok nmX7 (by decide) (by decide) rfl rfl wd_421 rfl (tyX7_ok 2 (by decide)) rfl rfl dX7_begin_7 (x_gen h fun σ2 h => ?_)
  refine x_aload_n C 0 dX7_begin_10 rfl rfl ?_
  refine x_dup C dX7_begin_11 rfl ?_
  refine x_getI C (k := 3) kX_39 (by decide) rfl x_in7 (by decide) (by decide) rfl rfl wd_422 dX7_begin_12 ?_
  refine x_iconst C (1 : Int32) dX7_begin_15 (by decide) ?_
  refine x_iadd C dX7_begin_16 ?_
  refine x_putI C (k := 3) tyX7 kX_39 (by decide) rfl x_in7 tyX7_ok nmX7 (by decide) (by decide) rfl rfl wd_422 rfl (tyX7_ok 3 (by decide)) rfl rfl dX7_begin_17 (x_gen h fun σ3 h => ?_)
  obtain ⟨-, rfl⟩ := x_ret h
  exact x_vret C dX7_begin_20
abbrev rm_X7_note : Room := { frames := 2, cells := 0, slots := 0, locals := 43 }
set_option maxHeartbeats 4000000 in
set_option maxRecDepth 100000 in
theorem w_X7_note_76 {τ : x_Hp} (C : x_C p s m args meth c cX7_note 2 none yX7_note.cls TX G) (s0 : Int32) (σ : x_Hp) (h : F_X7_note_76 s0 σ = some ((), τ)) : x_W p l e rm_X7_note s m args below meth c (MQ below (x_Q TX G none τ) args s 0 0 (x_A TX G)) TX G 2 76 [(0, .ref (x_ad G 39))] [.int s0, .ref (x_ad G 39)] σ := by
  have hG : x_OK TX G := C.2.2.2.2.2.2.2.2.1
  rw [F_X7_note_76] at h
  refine x_putI C (k := 2) tyX7 kX_39 (by decide) rfl x_in7 tyX7_ok nmX7 (by decide) (by decide) rfl rfl wd_421 rfl (tyX7_ok 2 (by decide)) rfl rfl dX7_note_76 (x_gen h fun σ5 h => ?_)
  refine x_aload_n C 0 dX7_note_79 rfl rfl ?_
  refine x_bipush C (50 : Int32) dX7_note_80 (by decide) ?_
  refine x_aload_n C 0 dX7_note_82 rfl rfl ?_
  refine x_getI C (k := 1) kX_39 (by decide) rfl x_in7 (by decide) (by decide) rfl rfl wd_419 dX7_note_83 ?_
  refine x_iconst C (1 : Int32) dX7_note_86 (by decide) ?_
  refine x_iadd C dX7_note_87 ?_
  refine x_min C wd_890 wd_872 wd_116 wd_873 ⟨Nat.le_of_ble_eq_true rfl, Nat.le_of_ble_eq_true rfl⟩ dX7_note_88 ?_
  refine x_putI C (k := 1) tyX7 kX_39 (by decide) rfl x_in7 tyX7_ok nmX7 (by decide) (by decide) rfl rfl wd_419 rfl (tyX7_ok 1 (by decide)) rfl rfl dX7_note_91 (x_gen h fun σ6 h => ?_)
  obtain ⟨-, rfl⟩ := x_ret h
  exact x_vret C dX7_note_94
set_option maxHeartbeats 4000000 in
set_option maxRecDepth 100000 in
theorem w_X7_note_54 {τ : x_Hp} (C : x_C p s m args meth c cX7_note 2 none yX7_note.cls TX G) (σ : x_Hp) (h : F_X7_note_54 σ = some ((), τ)) : x_W p l e rm_X7_note s m args below meth c (MQ below (x_Q TX G none τ) args s 0 0 (x_A TX G)) TX G 2 54 [(0, .ref (x_ad G 39))] [] σ := by
  have hG : x_OK TX G := C.2.2.2.2.2.2.2.2.1
  rw [F_X7_note_54] at h
  refine x_aload_n C 0 dX7_note_54 rfl rfl ?_
  refine x_aload_n C 0 dX7_note_55 rfl rfl ?_
  refine x_getI C (k := 2) kX_39 (by decide) rfl x_in7 (by decide) (by decide) rfl rfl wd_421 dX7_note_56 ?_
  refine x_iconst C (1 : Int32) dX7_note_59 (by decide) ?_
  refine x_iadd C dX7_note_60 ?_
  refine x_bipush C (50 : Int32) dX7_note_61 (by decide) ?_
  refine x_icmp_ge C 75 dX7_note_63 rfl (fun hc => ?_) (fun hc => ?_)
  · replace h := x_itp hc h
    refine x_iconst C (0 : Int32) dX7_note_75 (by decide) ?_
    exact x_sub [0] rfl (w_X7_note_76 C (0 : Int32) σ h)
  · replace h := x_itn hc h
    refine x_aload_n C 0 dX7_note_66 rfl rfl ?_
    refine x_getI C (k := 2) kX_39 (by decide) rfl x_in7 (by decide) (by decide) rfl rfl wd_421 dX7_note_67 ?_
    refine x_iconst C (1 : Int32) dX7_note_70 (by decide) ?_
    refine x_iadd C dX7_note_71 ?_
    refine x_goto C 76 dX7_note_72 rfl ?_
    exact x_sub [0] rfl (w_X7_note_76 C ((σ.1 39 2) + (1 : Int32)) σ h)
set_option maxHeartbeats 4000000 in
set_option maxRecDepth 100000 in
theorem c_X7_note (hG : x_OK TX G) {r1 : Nat} {σ τ : x_Hp} (hk_r1 : x_kd TX r1 = 5) (h : F_X7_note r1 σ = some ((), τ)) : x_M l TX G yX7_note cX7_note 2 none rm_X7_note [.ref (x_ad G 39), .ref (x_ad G r1)] σ none τ := by
  refine x_M.of hG (lv := [(0, .ref (x_ad G 39)), (1, .ref (x_ad G r1))]) (by decide) (Nat.le_of_ble_eq_true rfl) rfl (fun p e s m below meth c C => ?_)
  rw [F_X7_note] at h
  refine x_aload_n C 0 dX7_note_0 rfl rfl ?_
  refine x_dup C dX7_note_1 rfl ?_
  refine x_getI C (k := 3) kX_39 (by decide) rfl x_in7 (by decide) (by decide) rfl rfl wd_422 dX7_note_2 ?_
  refine x_iconst C (1 : Int32) dX7_note_5 (by decide) ?_
  refine x_iadd C dX7_note_6 ?_
  refine x_putI C (k := 3) tyX7 kX_39 (by decide) rfl x_in7 tyX7_ok nmX7 (by decide) (by decide) rfl rfl wd_422 rfl (tyX7_ok 3 (by decide)) rfl rfl dX7_note_7 (x_gen h fun σ1 h => ?_)
  refine x_aload_n C 0 dX7_note_10 rfl rfl ?_
  refine x_getI C (k := 2) kX_39 (by decide) rfl x_in7 (by decide) (by decide) rfl rfl wd_421 dX7_note_11 ?_
  refine x_if_lt C 54 dX7_note_14 rfl (fun hc => ?_) (fun hc => ?_)
  · replace h := x_itp hc h
    exact x_sub [0] rfl (w_X7_note_54 C σ1 h)
  · replace h := x_itn hc h
    refine x_aload_n C 0 dX7_note_17 rfl rfl ?_
    refine x_getI C (k := 2) kX_39 (by decide) rfl x_in7 (by decide) (by decide) rfl rfl wd_421 dX7_note_18 ?_
    refine x_aload_n C 0 dX7_note_21 rfl rfl ?_
    refine x_getRq C (k := 0) kX_39 (by decide) rfl x_in7 (by decide) (by decide) rfl rfl wd_418 rfX_39_0 dX7_note_22 ?_
    refine x_alen C (50 : Int32) kX_40 (by decide) (by rw [lnX_40]; rfl) dX7_note_25 ?_
    refine x_icmp_ge C 54 dX7_note_26 rfl (fun hc => ?_) (fun hc => ?_)
    · replace h := x_itp hc h
      exact x_sub [0] rfl (w_X7_note_54 C σ1 h)
    · replace h := x_itn hc h
      refine x_aload_n C 0 dX7_note_29 rfl rfl ?_
      refine x_getRq C (k := 0) kX_39 (by decide) rfl x_in7 (by decide) (by decide) rfl rfl wd_418 rfX_39_0 dX7_note_30 ?_
      refine x_aload_n C 0 dX7_note_33 rfl rfl ?_
      refine x_getI C (k := 2) kX_39 (by decide) rfl x_in7 (by decide) (by decide) rfl rfl wd_421 dX7_note_34 ?_
      obtain ⟨hi2, h⟩ := x_gd_some h
      refine x_aldq C kX_40 (x_inl lnX_40 hi2) dX7_note_37 ?_
      refine x_ifnull C dX7_note_38 ?_
      refine x_aload_n C 0 dX7_note_41 rfl rfl ?_
      refine x_getRq C (k := 0) kX_39 (by decide) rfl x_in7 (by decide) (by decide) rfl rfl wd_418 rfX_39_0 dX7_note_42 ?_
      refine x_aload_n C 0 dX7_note_45 rfl rfl ?_
      refine x_getI C (k := 2) kX_39 (by decide) rfl x_in7 (by decide) (by decide) rfl rfl wd_421 dX7_note_46 ?_
      obtain ⟨hi3, h⟩ := x_gd_some h
      refine x_aldq C kX_40 (x_inl lnX_40 hi3) dX7_note_49 ?_
      refine x_aload_n C 1 dX7_note_50 rfl rfl ?_
      obtain ⟨v4, σ4, hc4, h⟩ := x_b_some h
      refine x_callV C (n := 1) (c_X5_takeFrom hG (t_TX_el kX_40 (x_inl lnX_40 hi3)) hk_r1 hc4) (t_TX_el kX_40 (x_inl lnX_40 hi3)) (by decide) rfl wd_885 wd_886 wd_887 wd_107 wd_888 (by decide +kernel) rfl ⟨Nat.le_of_ble_eq_true rfl, Nat.le_of_ble_eq_true rfl⟩ ⟨rfl, rfl⟩ rfl (Nat.le_of_ble_eq_true rfl) dX7_note_51 ?_
      exact x_sub [0] rfl (w_X7_note_54 C σ4 h)
abbrev rm_X7_giveBack : Room := { frames := 2, cells := 0, slots := 0, locals := 43 }
set_option maxHeartbeats 4000000 in
set_option maxRecDepth 100000 in
theorem w_X7_giveBack_48 {r : Int32} {τ : x_Hp} (C : x_C p s m args meth c cX7_giveBack 2 (some .boolean) yX7_giveBack.cls TX G) (r1 : Nat) (s0 : Int32) (σ : x_Hp) (hk_r1 : x_kd TX r1 = 5) (h : F_X7_giveBack_48 r1 s0 σ = some (r, τ)) : x_W p l e rm_X7_giveBack s m args below meth c (MQ below (x_Q TX G (some (.int r)) τ) args s 0 0 (x_A TX G)) TX G 2 48 [(0, .ref (x_ad G 39)), (1, .ref (x_ad G r1))] [.int s0, .ref (x_ad G 39)] σ := by
  have hG : x_OK TX G := C.2.2.2.2.2.2.2.2.1
  rw [F_X7_giveBack_48] at h
  refine x_putI C (k := 2) tyX7 kX_39 (by decide) rfl x_in7 tyX7_ok nmX7 (by decide) (by decide) rfl rfl wd_421 rfl (tyX7_ok 2 (by decide)) rfl rfl dX7_giveBack_48 (x_gen h fun σ3 h => ?_)
  refine x_aload_n C 0 dX7_giveBack_51 rfl rfl ?_
  refine x_getI C (k := 2) kX_39 (by decide) rfl x_in7 (by decide) (by decide) rfl rfl wd_421 dX7_giveBack_52 ?_
  refine x_if_lt C 83 dX7_giveBack_55 rfl (fun hc => ?_) (fun hc => ?_)
  · replace h := x_itp hc h
    refine x_iconst C (1 : Int32) dX7_giveBack_83 (by decide) ?_
    obtain ⟨rfl, rfl⟩ := x_ret h
    exact x_zret C rfl dX7_giveBack_84
  · replace h := x_itn hc h
    refine x_aload_n C 0 dX7_giveBack_58 rfl rfl ?_
    refine x_getI C (k := 2) kX_39 (by decide) rfl x_in7 (by decide) (by decide) rfl rfl wd_421 dX7_giveBack_59 ?_
    refine x_aload_n C 0 dX7_giveBack_62 rfl rfl ?_
    refine x_getRq C (k := 0) kX_39 (by decide) rfl x_in7 (by decide) (by decide) rfl rfl wd_418 rfX_39_0 dX7_giveBack_63 ?_
    refine x_alen C (50 : Int32) kX_40 (by decide) (by rw [lnX_40]; rfl) dX7_giveBack_66 ?_
    refine x_icmp_ge C 83 dX7_giveBack_67 rfl (fun hc => ?_) (fun hc => ?_)
    · replace h := x_itp hc h
      refine x_iconst C (1 : Int32) dX7_giveBack_83 (by decide) ?_
      obtain ⟨rfl, rfl⟩ := x_ret h
      exact x_zret C rfl dX7_giveBack_84
    · replace h := x_itn hc h
      refine x_aload_n C 1 dX7_giveBack_70 rfl rfl ?_
      refine x_aload_n C 0 dX7_giveBack_71 rfl rfl ?_
      refine x_getRq C (k := 0) kX_39 (by decide) rfl x_in7 (by decide) (by decide) rfl rfl wd_418 rfX_39_0 dX7_giveBack_72 ?_
      refine x_aload_n C 0 dX7_giveBack_75 rfl rfl ?_
      refine x_getI C (k := 2) kX_39 (by decide) rfl x_in7 (by decide) (by decide) rfl rfl wd_421 dX7_giveBack_76 ?_
      obtain ⟨hi4, h⟩ := x_gd_some h
      refine x_aldq C kX_40 (x_inl lnX_40 hi4) dX7_giveBack_79 ?_
      obtain ⟨v5, σ5, hc5, h⟩ := x_b_some h
      refine x_callV C (n := 1) (c_X5_takeFrom hG hk_r1 (t_TX_el kX_40 (x_inl lnX_40 hi4)) hc5) hk_r1 (by decide) rfl wd_885 wd_886 wd_887 wd_107 wd_888 (by decide +kernel) rfl ⟨Nat.le_of_ble_eq_true rfl, Nat.le_of_ble_eq_true rfl⟩ ⟨rfl, rfl⟩ rfl (Nat.le_of_ble_eq_true rfl) dX7_giveBack_80 ?_
      refine x_iconst C (1 : Int32) dX7_giveBack_83 (by decide) ?_
      obtain ⟨rfl, rfl⟩ := x_ret h
      exact x_zret C rfl dX7_giveBack_84
set_option maxHeartbeats 4000000 in
set_option maxRecDepth 100000 in
theorem c_X7_giveBack (hG : x_OK TX G) {r1 : Nat} {σ τ : x_Hp} {r : Int32} (hk_r1 : x_kd TX r1 = 5) (h : F_X7_giveBack r1 σ = some (r, τ)) : x_M l TX G yX7_giveBack cX7_giveBack 2 (some .boolean) rm_X7_giveBack [.ref (x_ad G 39), .ref (x_ad G r1)] σ (some (.int r)) τ := by
  refine x_M.of hG (lv := [(0, .ref (x_ad G 39)), (1, .ref (x_ad G r1))]) (by decide) (Nat.le_of_ble_eq_true rfl) rfl (fun p e s m below meth c C => ?_)
  rw [F_X7_giveBack] at h
  refine x_aload_n C 0 dX7_giveBack_0 rfl rfl ?_
  refine x_getI C (k := 1) kX_39 (by decide) rfl x_in7 (by decide) (by decide) rfl rfl wd_419 dX7_giveBack_1 ?_
  refine x_if_ne C 9 dX7_giveBack_4 rfl (fun hc => ?_) (fun hc => ?_)
  · replace h := x_itn hc h
    refine x_aload_n C 0 dX7_giveBack_9 rfl rfl ?_
    refine x_dup C dX7_giveBack_10 rfl ?_
    refine x_getI C (k := 1) kX_39 (by decide) rfl x_in7 (by decide) (by decide) rfl rfl wd_419 dX7_giveBack_11 ?_
    refine x_iconst C (1 : Int32) dX7_giveBack_14 (by decide) ?_
    refine x_isub C dX7_giveBack_15 ?_
    refine x_putI C (k := 1) tyX7 kX_39 (by decide) rfl x_in7 tyX7_ok nmX7 (by decide) (by decide) rfl rfl wd_419 rfl (tyX7_ok 1 (by decide)) rfl rfl dX7_giveBack_16 (x_gen h fun σ1 h => ?_)
    refine x_aload_n C 0 dX7_giveBack_19 rfl rfl ?_
    refine x_dup C dX7_giveBack_20 rfl ?_
    refine x_getI C (k := 3) kX_39 (by decide) rfl x_in7 (by decide) (by decide) rfl rfl wd_422 dX7_giveBack_21 ?_
    refine x_iconst C (1 : Int32) dX7_giveBack_24 (by decide) ?_
    refine x_iadd C dX7_giveBack_25 ?_
    refine x_putI C (k := 3) tyX7 kX_39 (by decide) rfl x_in7 tyX7_ok nmX7 (by decide) (by decide) rfl rfl wd_422 rfl (tyX7_ok 3 (by decide)) rfl rfl dX7_giveBack_26 (x_gen h fun σ2 h => ?_)
    refine x_aload_n C 0 dX7_giveBack_29 rfl rfl ?_
    refine x_aload_n C 0 dX7_giveBack_30 rfl rfl ?_
    refine x_getI C (k := 2) kX_39 (by decide) rfl x_in7 (by decide) (by decide) rfl rfl wd_421 dX7_giveBack_31 ?_
    refine x_if_le C 46 dX7_giveBack_34 rfl (fun hc => ?_) (fun hc => ?_)
    · replace h := x_itp hc h
      refine x_bipush C (49 : Int32) dX7_giveBack_46 (by decide) ?_
      exact x_sub [0, 1] rfl (w_X7_giveBack_48 C r1 (49 : Int32) σ2 hk_r1 h)
    · replace h := x_itn hc h
      refine x_aload_n C 0 dX7_giveBack_37 rfl rfl ?_
      refine x_getI C (k := 2) kX_39 (by decide) rfl x_in7 (by decide) (by decide) rfl rfl wd_421 dX7_giveBack_38 ?_
      refine x_iconst C (1 : Int32) dX7_giveBack_41 (by decide) ?_
      refine x_isub C dX7_giveBack_42 ?_
      refine x_goto C 48 dX7_giveBack_43 rfl ?_
      exact x_sub [0, 1] rfl (w_X7_giveBack_48 C r1 ((σ2.1 39 2) - (1 : Int32)) σ2 hk_r1 h)
  · replace h := x_itp hc h
    refine x_iconst C (0 : Int32) dX7_giveBack_7 (by decide) ?_
    obtain ⟨rfl, rfl⟩ := x_ret h
    exact x_zret C rfl dX7_giveBack_8
abbrev rm_X8_between : Room := { frames := 0, cells := 0, slots := 0, locals := 0 }
set_option maxHeartbeats 4000000 in
set_option maxRecDepth 100000 in
theorem c_X8_between (hG : x_OK TX G) {x0 : Int32} {x1 : Int32} {x2 : Int32} {σ τ : x_Hp} {r : Int32} (h : F_X8_between x0 x1 x2 σ = some (r, τ)) : x_M l TX G yX8_between cX8_between 3 (some .boolean) rm_X8_between [.int x0, .int x1, .int x2] σ (some (.int r)) τ := by
  refine x_M.of hG (lv := [(0, .int x0), (1, .int x1), (2, .int x2)]) (by decide) (Nat.le_of_ble_eq_true rfl) rfl (fun p e s m below meth c C => ?_)
  rw [F_X8_between] at h
  refine x_iload_n C 0 dX8_between_0 rfl rfl ?_
  refine x_iload_n C 1 dX8_between_1 rfl rfl ?_
  refine x_icmp_lt C 14 dX8_between_2 rfl (fun hc => ?_) (fun hc => ?_)
  · replace h := x_itp hc h
    refine x_iconst C (0 : Int32) dX8_between_14 (by decide) ?_
    obtain ⟨rfl, rfl⟩ := x_ret h
    exact x_zret C rfl dX8_between_15
  · replace h := x_itn hc h
    refine x_iload_n C 0 dX8_between_5 rfl rfl ?_
    refine x_iload_n C 2 dX8_between_6 rfl rfl ?_
    refine x_icmp_gt C 14 dX8_between_7 rfl (fun hc => ?_) (fun hc => ?_)
    · replace h := x_itp hc h
      refine x_iconst C (0 : Int32) dX8_between_14 (by decide) ?_
      obtain ⟨rfl, rfl⟩ := x_ret h
      exact x_zret C rfl dX8_between_15
    · replace h := x_itn hc h
      refine x_iconst C (1 : Int32) dX8_between_10 (by decide) ?_
      refine x_goto C 15 dX8_between_11 rfl ?_
      obtain ⟨rfl, rfl⟩ := x_ret h
      exact x_zret C rfl dX8_between_15
abbrev rm_X8_feed : Room := { frames := 2, cells := 0, slots := 0, locals := 47 }
set_option maxHeartbeats 4000000 in
set_option maxRecDepth 100000 in
theorem c_X8_feed (hG : x_OK TX G) {x1 : Int32} {x2 : Int32} {x3 : Int32} {x4 : Int32} {x5 : Int32} {σ τ : x_Hp} {r : Int32} (h : F_X8_feed x1 x2 x3 x4 x5 σ = some (r, τ)) : x_M l TX G yX8_feed cX8_feed 6 (some .int) rm_X8_feed [.ref (x_ad G 0), .int x1, .int x2, .int x3, .int x4, .int x5] σ (some (.int r)) τ := by
  refine x_M.of hG (lv := [(0, .ref (x_ad G 0)), (1, .int x1), (2, .int x2), (3, .int x3), (4, .int x4), (5, .int x5)]) (by decide) (Nat.le_of_ble_eq_true rfl) rfl (fun p e s m below meth c C => ?_)
  rw [F_X8_feed] at h
  refine x_aload_n C 0 dX8_feed_0 rfl rfl ?_
  refine x_getRq C (k := 1) kX_0 (by decide) rfl x_in8 (by decide) (by decide) rfl rfl wd_544 rfX_0_1 dX8_feed_1 ?_
  refine x_iload_n C 1 dX8_feed_4 rfl rfl ?_
  refine x_iload_n C 2 dX8_feed_5 rfl rfl ?_
  refine x_iload_n C 3 dX8_feed_6 rfl rfl ?_
  refine x_iload C 4 dX8_feed_7 rfl ?_
  refine x_iload C 5 dX8_feed_9 rfl ?_
  obtain ⟨v1, σ1, hc1, h⟩ := x_b_some h
  refine x_callV C (n := 5) (c_X4_addBytes hG hc1) kX_14 (by decide) rfl wd_590 wd_591 wd_592 wd_105 wd_593 (by decide +kernel) rfl ⟨Nat.le_of_ble_eq_true rfl, Nat.le_of_ble_eq_true rfl⟩ ⟨rfl, rfl⟩ rfl (Nat.le_of_ble_eq_true rfl) dX8_feed_11 ?_
  obtain ⟨rfl, rfl⟩ := x_ret h
  exact x_iret C dX8_feed_14
abbrev rm_X8_back : Room := { frames := 1, cells := 0, slots := 0, locals := 21 }
set_option maxHeartbeats 4000000 in
set_option maxRecDepth 100000 in
theorem c_X8_back (hG : x_OK TX G) {x1 : Int32} {σ τ : x_Hp} {r : Int32} (h : F_X8_back x1 σ = some (r, τ)) : x_M l TX G yX8_back cX8_back 2 (some .int) rm_X8_back [.ref (x_ad G 0), .int x1] σ (some (.int r)) τ := by
  refine x_M.of hG (lv := [(0, .ref (x_ad G 0)), (1, .int x1)]) (by decide) (Nat.le_of_ble_eq_true rfl) rfl (fun p e s m below meth c C => ?_)
  rw [F_X8_back] at h
  refine x_aload_n C 0 dX8_back_0 rfl rfl ?_
  refine x_getRq C (k := 1) kX_0 (by decide) rfl x_in8 (by decide) (by decide) rfl rfl wd_544 rfX_0_1 dX8_back_1 ?_
  refine x_iload_n C 1 dX8_back_4 rfl rfl ?_
  obtain ⟨v1, σ1, hc1, h⟩ := x_b_some h
  refine x_callV C (n := 1) (c_X4_dropBytes hG hc1) kX_14 (by decide) rfl wd_602 wd_603 wd_604 wd_105 wd_605 (by decide +kernel) rfl ⟨Nat.le_of_ble_eq_true rfl, Nat.le_of_ble_eq_true rfl⟩ ⟨rfl, rfl⟩ rfl (Nat.le_of_ble_eq_true rfl) dX8_back_5 ?_
  obtain ⟨rfl, rfl⟩ := x_ret h
  exact x_iret C dX8_back_8
abbrev rm_X8_read : Room := { frames := 9, cells := 0, slots := 0, locals := 204 }
set_option maxHeartbeats 4000000 in
set_option maxRecDepth 100000 in
theorem w_X8_read_51 {r : Int32} {τ : x_Hp} (C : x_C p s m args meth c cX8_read 3 (some .int) yX8_read.cls TX G) : ∀ (n : Nat) (x1 : Int32) (x2 : Int32) (σ : x_Hp) (h : F_X8_read_51 n x1 x2 σ = some (r, τ)), x_W p l e rm_X8_read s m args below meth c (MQ below (x_Q TX G (some (.int r)) τ) args s 0 0 (x_A TX G)) TX G 3 51 [(0, .ref (x_ad G 0)), (1, .int x1), (2, .int x2)] [] σ := by
  intro n
  induction n with
  | zero => intro x1 x2 σ  h; cases h
  | succ n ih =>
    intro x1 x2 σ  h
    have hG : x_OK TX G := C.2.2.2.2.2.2.2.2.1
    rw [F_X8_read_51] at h
    refine x_iload_n C 2 dX8_read_51 rfl rfl ?_
    refine x_iconst C (3 : Int32) dX8_read_52 (by decide) ?_
    refine x_icmp_ge C 71 dX8_read_53 rfl (fun hc => ?_) (fun hc => ?_)
    · replace h := x_itp hc h
      refine x_iload_n C 1 dX8_read_71 rfl rfl ?_
      obtain ⟨rfl, rfl⟩ := x_ret h
      exact x_iret C dX8_read_72
    · replace h := x_itn hc h
      refine x_aload_n C 0 dX8_read_56 rfl rfl ?_
      refine x_getRq C (k := 7) kX_0 (by decide) rfl x_in8 (by decide) (by decide) rfl rfl wd_550 rfX_0_7 dX8_read_57 ?_
      refine x_iload_n C 2 dX8_read_60 rfl rfl ?_
      refine x_iconst C (0 : Int32) dX8_read_61 (by decide) ?_
      obtain ⟨v6, σ6, hc6, h⟩ := x_b_some h
      refine x_callS C (n := 3) (c_X8_put hG kX_142 hc6) wd_817 wd_522 wd_102 wd_523 (by decide +kernel) rfl ⟨Nat.le_of_ble_eq_true rfl, Nat.le_of_ble_eq_true rfl⟩ ⟨rfl, rfl⟩ rfl (Nat.le_of_ble_eq_true rfl) dX8_read_62 ?_
      refine x_iinc C 2 (x2 + (1 : Int32)) [(2, .int (x2 + (1 : Int32))), (0, .ref (x_ad G 0)), (1, .int x1)] dX8_read_65 rfl rfl (by decide) rfl ?_
      refine x_goto C 51 dX8_read_68 rfl ?_
      exact x_sub [1, 2, 0] rfl (ih x1 (x2 + (1 : Int32)) σ6 h)
set_option maxHeartbeats 4000000 in
set_option maxRecDepth 100000 in
theorem c_X8_read (hG : x_OK TX G) {σ τ : x_Hp} {r : Int32} (h : F_X8_read σ = some (r, τ)) : x_M l TX G yX8_read cX8_read 3 (some .int) rm_X8_read [.ref (x_ad G 0)] σ (some (.int r)) τ := by
  refine x_M.of hG (lv := [(0, .ref (x_ad G 0))]) (by decide) (Nat.le_of_ble_eq_true rfl) rfl (fun p e s m below meth c C => ?_)
  rw [F_X8_read] at h
  refine x_aload_n C 0 dX8_read_0 rfl rfl ?_
  refine x_getRq C (k := 1) kX_0 (by decide) rfl x_in8 (by decide) (by decide) rfl rfl wd_544 rfX_0_1 dX8_read_1 ?_
  obtain ⟨v1, σ1, hc1, h⟩ := x_b_some h
  refine x_callV C (n := 0) (c_X4_readTape hG hc1) kX_14 (by decide) rfl wd_610 wd_611 wd_612 wd_105 wd_613 (by decide +kernel) rfl ⟨Nat.le_of_ble_eq_true rfl, Nat.le_of_ble_eq_true rfl⟩ ⟨rfl, rfl⟩ rfl (Nat.le_of_ble_eq_true rfl) dX8_read_4 ?_
  refine x_istore_n C [(1, .int v1), (0, .ref (x_ad G 0))] dX8_read_7 rfl (by decide) rfl ?_
  refine x_iload_n C 0 dX8_read_8 rfl rfl ?_
  refine x_if_ne C 71 dX8_read_9 rfl (fun hc => ?_) (fun hc => ?_)
  · replace h := x_itn hc h
    refine x_iload_n C 0 dX8_read_71 rfl rfl ?_
    obtain ⟨rfl, rfl⟩ := x_ret h
    exact x_iret C dX8_read_72
  · replace h := x_itp hc h
    refine x_aload_n C 1 dX8_read_12 rfl rfl ?_
    refine x_getRq C (k := 0) kX_0 (by decide) rfl x_in8 (by decide) (by decide) rfl rfl wd_543 rfX_0_0 dX8_read_13 ?_
    refine x_aload_n C 1 dX8_read_16 rfl rfl ?_
    refine x_getRq C (k := 1) kX_0 (by decide) rfl x_in8 (by decide) (by decide) rfl rfl wd_544 rfX_0_1 dX8_read_17 ?_
    refine x_getRq C (k := 12) kX_14 (by decide) rfl x_in4 (by decide) (by decide) rfl rfl wd_259 rfX_14_12 dX8_read_20 ?_
    obtain ⟨v2, σ2, hc2, h⟩ := x_b_some h
    refine x_callV C (n := 1) (c_X6_takeFrom hG kX_1 kX_21 hc2) kX_1 (by decide) rfl wd_801 wd_802 wd_803 wd_103 wd_804 (by decide +kernel) rfl ⟨Nat.le_of_ble_eq_true rfl, Nat.le_of_ble_eq_true rfl⟩ ⟨rfl, rfl⟩ rfl (Nat.le_of_ble_eq_true rfl) dX8_read_23 ?_
    refine x_aload_n C 1 dX8_read_26 rfl rfl ?_
    refine x_getRq C (k := 2) kX_0 (by decide) rfl x_in8 (by decide) (by decide) rfl rfl wd_545 rfX_0_2 dX8_read_27 ?_
    refine x_aload_n C 1 dX8_read_30 rfl rfl ?_
    refine x_getRq C (k := 3) kX_0 (by decide) rfl x_in8 (by decide) (by decide) rfl rfl wd_546 rfX_0_3 dX8_read_31 ?_
    obtain ⟨v3, σ3, hc3, h⟩ := x_b_some h
    refine x_callV C (n := 1) (c_X0_begin hG kX_34 kX_35 hc3) kX_34 (by decide) rfl wd_532 wd_533 wd_534 wd_106 wd_535 (by decide +kernel) rfl ⟨Nat.le_of_ble_eq_true rfl, Nat.le_of_ble_eq_true rfl⟩ ⟨rfl, rfl⟩ rfl (Nat.le_of_ble_eq_true rfl) dX8_read_34 ?_
    refine x_aload_n C 1 dX8_read_37 rfl rfl ?_
    refine x_getRq C (k := 5) kX_0 (by decide) rfl x_in8 (by decide) (by decide) rfl rfl wd_548 rfX_0_5 dX8_read_38 ?_
    obtain ⟨v4, σ4, hc4, h⟩ := x_b_some h
    refine x_callV C (n := 0) (c_X7_begin hG hc4) kX_39 (by decide) rfl wd_813 wd_814 wd_815 wd_108 wd_816 (by decide +kernel) rfl ⟨Nat.le_of_ble_eq_true rfl, Nat.le_of_ble_eq_true rfl⟩ ⟨rfl, rfl⟩ rfl (Nat.le_of_ble_eq_true rfl) dX8_read_41 ?_
    refine x_aload_n C 1 dX8_read_44 rfl rfl ?_
    refine x_iconst C (0 : Int32) dX8_read_45 (by decide) ?_
    refine x_putI C (k := 13) tyX8 kX_0 (by decide) rfl x_in8 tyX8_ok nmX8 (by decide) (by decide) rfl rfl wd_556 rfl (tyX8_ok 13 (by decide)) rfl rfl dX8_read_46 (x_gen h fun σ5 h => ?_)
    refine x_iconst C (0 : Int32) dX8_read_49 (by decide) ?_
    refine x_istore_n C [(2, .int (0 : Int32)), (1, .int v1), (0, .ref (x_ad G 0))] dX8_read_50 rfl (by decide) rfl ?_
    exact x_sub [2, 1, 0] rfl (w_X8_read_51 C x_fuel v1 (0 : Int32) σ5 h)
abbrev rm_X8_place : Room := { frames := 0, cells := 0, slots := 0, locals := 0 }
set_option maxHeartbeats 4000000 in
set_option maxRecDepth 100000 in
theorem c_X8_place (hG : x_OK TX G) {σ τ : x_Hp} {r : Int32} (h : F_X8_place σ = some (r, τ)) : x_M l TX G yX8_place cX8_place 1 (some .int) rm_X8_place [.ref (x_ad G 0)] σ (some (.int r)) τ := by
  refine x_M.of hG (lv := [(0, .ref (x_ad G 0))]) (by decide) (Nat.le_of_ble_eq_true rfl) rfl (fun p e s m below meth c C => ?_)
  rw [F_X8_place] at h
  refine x_aload_n C 0 dX8_place_0 rfl rfl ?_
  refine x_getRq C (k := 1) kX_0 (by decide) rfl x_in8 (by decide) (by decide) rfl rfl wd_544 rfX_0_1 dX8_place_1 ?_
  refine x_getI C (k := 11) kX_14 (by decide) rfl x_in4 (by decide) (by decide) rfl rfl wd_257 dX8_place_4 ?_
  obtain ⟨rfl, rfl⟩ := x_ret h
  exact x_iret C dX8_place_7
abbrev rm_X8_now : Room := { frames := 0, cells := 0, slots := 0, locals := 0 }
set_option maxHeartbeats 4000000 in
set_option maxRecDepth 100000 in
theorem c_X8_now (hG : x_OK TX G) {x1 : Int32} {σ τ : x_Hp} {r : Int32} (h : F_X8_now x1 σ = some (r, τ)) : x_M l TX G yX8_now cX8_now 2 (some .int) rm_X8_now [.ref (x_ad G 0), .int x1] σ (some (.int r)) τ := by
  refine x_M.of hG (lv := [(0, .ref (x_ad G 0)), (1, .int x1)]) (by decide) (Nat.le_of_ble_eq_true rfl) rfl (fun p e s m below meth c C => ?_)
  rw [F_X8_now] at h
  refine x_iload_n C 1 dX8_now_0 rfl rfl ?_
  by_cases hw0 : x1 = (0 : Int32)
  · replace h := x_itp hw0 h
    refine x_ts_at C (0 : Int32) (63) 64 dX8_now_1 hw0 (by decide +kernel) (by decide +kernel) (by decide +kernel) rfl ?_
    refine x_aload_n C 0 dX8_now_64 rfl rfl ?_
    refine x_getRq C (k := 3) kX_0 (by decide) rfl x_in8 (by decide) (by decide) rfl rfl wd_546 rfX_0_3 dX8_now_65 ?_
    refine x_getI C (k := 0) kX_35 (by decide) rfl x_in5 (by decide) (by decide) rfl rfl wd_307 dX8_now_68 ?_
    obtain ⟨rfl, rfl⟩ := x_ret h
    exact x_iret C dX8_now_71
  replace h := x_itn hw0 h
  by_cases hw1 : x1 = (1 : Int32)
  · replace h := x_itp hw1 h
    refine x_ts_at C (1 : Int32) (71) 72 dX8_now_1 hw1 (by decide +kernel) (by decide +kernel) (by decide +kernel) rfl ?_
    refine x_aload_n C 0 dX8_now_72 rfl rfl ?_
    refine x_getRq C (k := 3) kX_0 (by decide) rfl x_in8 (by decide) (by decide) rfl rfl wd_546 rfX_0_3 dX8_now_73 ?_
    refine x_getI C (k := 1) kX_35 (by decide) rfl x_in5 (by decide) (by decide) rfl rfl wd_310 dX8_now_76 ?_
    obtain ⟨rfl, rfl⟩ := x_ret h
    exact x_iret C dX8_now_79
  replace h := x_itn hw1 h
  by_cases hw2 : x1 = (2 : Int32)
  · replace h := x_itp hw2 h
    refine x_ts_at C (2 : Int32) (79) 80 dX8_now_1 hw2 (by decide +kernel) (by decide +kernel) (by decide +kernel) rfl ?_
    refine x_aload_n C 0 dX8_now_80 rfl rfl ?_
    refine x_getRq C (k := 3) kX_0 (by decide) rfl x_in8 (by decide) (by decide) rfl rfl wd_546 rfX_0_3 dX8_now_81 ?_
    refine x_getI C (k := 2) kX_35 (by decide) rfl x_in5 (by decide) (by decide) rfl rfl wd_313 dX8_now_84 ?_
    obtain ⟨rfl, rfl⟩ := x_ret h
    exact x_iret C dX8_now_87
  replace h := x_itn hw2 h
  by_cases hw3 : x1 = (3 : Int32)
  · replace h := x_itp hw3 h
    refine x_ts_at C (3 : Int32) (87) 88 dX8_now_1 hw3 (by decide +kernel) (by decide +kernel) (by decide +kernel) rfl ?_
    refine x_aload_n C 0 dX8_now_88 rfl rfl ?_
    refine x_getRq C (k := 3) kX_0 (by decide) rfl x_in8 (by decide) (by decide) rfl rfl wd_546 rfX_0_3 dX8_now_89 ?_
    refine x_getI C (k := 3) kX_35 (by decide) rfl x_in5 (by decide) (by decide) rfl rfl wd_316 dX8_now_92 ?_
    obtain ⟨rfl, rfl⟩ := x_ret h
    exact x_iret C dX8_now_95
  replace h := x_itn hw3 h
  by_cases hw4 : x1 = (4 : Int32)
  · replace h := x_itp hw4 h
    refine x_ts_at C (4 : Int32) (95) 96 dX8_now_1 hw4 (by decide +kernel) (by decide +kernel) (by decide +kernel) rfl ?_
    refine x_aload_n C 0 dX8_now_96 rfl rfl ?_
    refine x_getRq C (k := 3) kX_0 (by decide) rfl x_in8 (by decide) (by decide) rfl rfl wd_546 rfX_0_3 dX8_now_97 ?_
    refine x_getI C (k := 9) kX_35 (by decide) rfl x_in5 (by decide) (by decide) rfl rfl wd_332 dX8_now_100 ?_
    obtain ⟨rfl, rfl⟩ := x_ret h
    exact x_iret C dX8_now_103
  replace h := x_itn hw4 h
  by_cases hw5 : x1 = (5 : Int32)
  · replace h := x_itp hw5 h
    refine x_ts_at C (5 : Int32) (103) 104 dX8_now_1 hw5 (by decide +kernel) (by decide +kernel) (by decide +kernel) rfl ?_
    refine x_aload_n C 0 dX8_now_104 rfl rfl ?_
    refine x_getRq C (k := 3) kX_0 (by decide) rfl x_in8 (by decide) (by decide) rfl rfl wd_546 rfX_0_3 dX8_now_105 ?_
    refine x_getI C (k := 4) kX_35 (by decide) rfl x_in5 (by decide) (by decide) rfl rfl wd_319 dX8_now_108 ?_
    obtain ⟨rfl, rfl⟩ := x_ret h
    exact x_iret C dX8_now_111
  replace h := x_itn hw5 h
  by_cases hw6 : x1 = (6 : Int32)
  · replace h := x_itp hw6 h
    refine x_ts_at C (6 : Int32) (111) 112 dX8_now_1 hw6 (by decide +kernel) (by decide +kernel) (by decide +kernel) rfl ?_
    refine x_aload_n C 0 dX8_now_112 rfl rfl ?_
    refine x_getRq C (k := 3) kX_0 (by decide) rfl x_in8 (by decide) (by decide) rfl rfl wd_546 rfX_0_3 dX8_now_113 ?_
    refine x_getI C (k := 12) kX_35 (by decide) rfl x_in5 (by decide) (by decide) rfl rfl wd_341 dX8_now_116 ?_
    obtain ⟨rfl, rfl⟩ := x_ret h
    exact x_iret C dX8_now_119
  replace h := x_itn hw6 h
  by_cases hw7 : x1 = (7 : Int32)
  · replace h := x_itp hw7 h
    refine x_ts_at C (7 : Int32) (119) 120 dX8_now_1 hw7 (by decide +kernel) (by decide +kernel) (by decide +kernel) rfl ?_
    refine x_aload_n C 0 dX8_now_120 rfl rfl ?_
    refine x_getRq C (k := 3) kX_0 (by decide) rfl x_in8 (by decide) (by decide) rfl rfl wd_546 rfX_0_3 dX8_now_121 ?_
    refine x_getI C (k := 13) kX_35 (by decide) rfl x_in5 (by decide) (by decide) rfl rfl wd_344 dX8_now_124 ?_
    obtain ⟨rfl, rfl⟩ := x_ret h
    exact x_iret C dX8_now_127
  replace h := x_itn hw7 h
  by_cases hw8 : x1 = (8 : Int32)
  · replace h := x_itp hw8 h
    refine x_ts_at C (8 : Int32) (127) 128 dX8_now_1 hw8 (by decide +kernel) (by decide +kernel) (by decide +kernel) rfl ?_
    refine x_aload_n C 0 dX8_now_128 rfl rfl ?_
    refine x_getRq C (k := 3) kX_0 (by decide) rfl x_in8 (by decide) (by decide) rfl rfl wd_546 rfX_0_3 dX8_now_129 ?_
    refine x_getI C (k := 14) kX_35 (by decide) rfl x_in5 (by decide) (by decide) rfl rfl wd_347 dX8_now_132 ?_
    obtain ⟨rfl, rfl⟩ := x_ret h
    exact x_iret C dX8_now_135
  replace h := x_itn hw8 h
  by_cases hw9 : x1 = (9 : Int32)
  · replace h := x_itp hw9 h
    refine x_ts_at C (9 : Int32) (135) 136 dX8_now_1 hw9 (by decide +kernel) (by decide +kernel) (by decide +kernel) rfl ?_
    refine x_aload_n C 0 dX8_now_136 rfl rfl ?_
    refine x_getRq C (k := 3) kX_0 (by decide) rfl x_in8 (by decide) (by decide) rfl rfl wd_546 rfX_0_3 dX8_now_137 ?_
    refine x_getI C (k := 8) kX_35 (by decide) rfl x_in5 (by decide) (by decide) rfl rfl wd_329 dX8_now_140 ?_
    obtain ⟨rfl, rfl⟩ := x_ret h
    exact x_iret C dX8_now_143
  replace h := x_itn hw9 h
  by_cases hw10 : x1 = (10 : Int32)
  · replace h := x_itp hw10 h
    refine x_ts_at C (10 : Int32) (143) 144 dX8_now_1 hw10 (by decide +kernel) (by decide +kernel) (by decide +kernel) rfl ?_
    refine x_aload_n C 0 dX8_now_144 rfl rfl ?_
    refine x_getRq C (k := 3) kX_0 (by decide) rfl x_in8 (by decide) (by decide) rfl rfl wd_546 rfX_0_3 dX8_now_145 ?_
    refine x_getI C (k := 10) kX_35 (by decide) rfl x_in5 (by decide) (by decide) rfl rfl wd_335 dX8_now_148 ?_
    obtain ⟨rfl, rfl⟩ := x_ret h
    exact x_iret C dX8_now_151
  replace h := x_itn hw10 h
  by_cases hw11 : x1 = (11 : Int32)
  · replace h := x_itp hw11 h
    refine x_ts_at C (11 : Int32) (151) 152 dX8_now_1 hw11 (by decide +kernel) (by decide +kernel) (by decide +kernel) rfl ?_
    refine x_aload_n C 0 dX8_now_152 rfl rfl ?_
    refine x_getRq C (k := 3) kX_0 (by decide) rfl x_in8 (by decide) (by decide) rfl rfl wd_546 rfX_0_3 dX8_now_153 ?_
    refine x_getI C (k := 11) kX_35 (by decide) rfl x_in5 (by decide) (by decide) rfl rfl wd_338 dX8_now_156 ?_
    obtain ⟨rfl, rfl⟩ := x_ret h
    exact x_iret C dX8_now_159
  replace h := x_itn hw11 h
  refine x_ts_out C 160 dX8_now_1 (by have q0 := x_tne (k := 0) (by decide +kernel) hw0; have q1 := x_tne (k := 1) (by decide +kernel) hw1; have q2 := x_tne (k := 2) (by decide +kernel) hw2; have q3 := x_tne (k := 3) (by decide +kernel) hw3; have q4 := x_tne (k := 4) (by decide +kernel) hw4; have q5 := x_tne (k := 5) (by decide +kernel) hw5; have q6 := x_tne (k := 6) (by decide +kernel) hw6; have q7 := x_tne (k := 7) (by decide +kernel) hw7; have q8 := x_tne (k := 8) (by decide +kernel) hw8; have q9 := x_tne (k := 9) (by decide +kernel) hw9; have q10 := x_tne (k := 10) (by decide +kernel) hw10; have q11 := x_tne (k := 11) (by decide +kernel) hw11; omega) rfl ?_
  refine x_iconst C (-1 : Int32) dX8_now_160 (by decide) ?_
  obtain ⟨rfl, rfl⟩ := x_ret h
  exact x_iret C dX8_now_161
abbrev rm_X8_isAunt : Room := { frames := 0, cells := 0, slots := 0, locals := 0 }
set_option maxHeartbeats 4000000 in
set_option maxRecDepth 100000 in
theorem c_X8_isAunt (hG : x_OK TX G) {x1 : Int32} {σ τ : x_Hp} {r : Int32} (h : F_X8_isAunt x1 σ = some (r, τ)) : x_M l TX G yX8_isAunt cX8_isAunt 2 (some .boolean) rm_X8_isAunt [.ref (x_ad G 0), .int x1] σ (some (.int r)) τ := by
  refine x_M.of hG (lv := [(0, .ref (x_ad G 0)), (1, .int x1)]) (by decide) (Nat.le_of_ble_eq_true rfl) rfl (fun p e s m below meth c C => ?_)
  rw [F_X8_isAunt] at h
  refine x_iload_n C 1 dX8_isAunt_0 rfl rfl ?_
  refine x_if_lt C 19 dX8_isAunt_1 rfl (fun hc => ?_) (fun hc => ?_)
  · replace h := x_itp hc h
    refine x_iconst C (0 : Int32) dX8_isAunt_19 (by decide) ?_
    obtain ⟨rfl, rfl⟩ := x_ret h
    exact x_zret C rfl dX8_isAunt_20
  · replace h := x_itn hc h
    refine x_iload_n C 1 dX8_isAunt_4 rfl rfl ?_
    refine x_aload_n C 0 dX8_isAunt_5 rfl rfl ?_
    refine x_getRq C (k := 0) kX_0 (by decide) rfl x_in8 (by decide) (by decide) rfl rfl wd_543 rfX_0_0 dX8_isAunt_6 ?_
    refine x_getI C (k := 7) kX_1 (by decide) rfl x_in6 (by decide) (by decide) rfl rfl wd_187 dX8_isAunt_9 ?_
    refine x_icmp_ge C 19 dX8_isAunt_12 rfl (fun hc => ?_) (fun hc => ?_)
    · replace h := x_itp hc h
      refine x_iconst C (0 : Int32) dX8_isAunt_19 (by decide) ?_
      obtain ⟨rfl, rfl⟩ := x_ret h
      exact x_zret C rfl dX8_isAunt_20
    · replace h := x_itn hc h
      refine x_iconst C (1 : Int32) dX8_isAunt_15 (by decide) ?_
      refine x_goto C 20 dX8_isAunt_16 rfl ?_
      obtain ⟨rfl, rfl⟩ := x_ret h
      exact x_zret C rfl dX8_isAunt_20
abbrev rm_X8_asleepOrAlone : Room := { frames := 0, cells := 0, slots := 0, locals := 0 }
set_option maxHeartbeats 4000000 in
set_option maxRecDepth 100000 in
theorem c_X8_asleepOrAlone (hG : x_OK TX G) {σ τ : x_Hp} {r : Int32} (h : F_X8_asleepOrAlone σ = some (r, τ)) : x_M l TX G yX8_asleepOrAlone cX8_asleepOrAlone 1 (some .boolean) rm_X8_asleepOrAlone [.ref (x_ad G 0)] σ (some (.int r)) τ := by
  refine x_M.of hG (lv := [(0, .ref (x_ad G 0))]) (by decide) (Nat.le_of_ble_eq_true rfl) rfl (fun p e s m below meth c C => ?_)
  rw [F_X8_asleepOrAlone] at h
  refine x_aload_n C 0 dX8_asleepOrAlone_0 rfl rfl ?_
  refine x_getRq C (k := 3) kX_0 (by decide) rfl x_in8 (by decide) (by decide) rfl rfl wd_546 rfX_0_3 dX8_asleepOrAlone_1 ?_
  refine x_getI C (k := 13) kX_35 (by decide) rfl x_in5 (by decide) (by decide) rfl rfl wd_344 dX8_asleepOrAlone_4 ?_
  refine x_if_gt C 20 dX8_asleepOrAlone_7 rfl (fun hc => ?_) (fun hc => ?_)
  · replace h := x_itp hc h
    refine x_iconst C (1 : Int32) dX8_asleepOrAlone_20 (by decide) ?_
    refine x_goto C 25 dX8_asleepOrAlone_21 rfl ?_
    obtain ⟨rfl, rfl⟩ := x_ret h
    exact x_zret C rfl dX8_asleepOrAlone_25
  · replace h := x_itn hc h
    refine x_aload_n C 0 dX8_asleepOrAlone_10 rfl rfl ?_
    refine x_getRq C (k := 0) kX_0 (by decide) rfl x_in8 (by decide) (by decide) rfl rfl wd_543 rfX_0_0 dX8_asleepOrAlone_11 ?_
    refine x_getI C (k := 7) kX_1 (by decide) rfl x_in6 (by decide) (by decide) rfl rfl wd_187 dX8_asleepOrAlone_14 ?_
    refine x_if_ne C 24 dX8_asleepOrAlone_17 rfl (fun hc => ?_) (fun hc => ?_)
    · replace h := x_itn hc h
      refine x_iconst C (0 : Int32) dX8_asleepOrAlone_24 (by decide) ?_
      obtain ⟨rfl, rfl⟩ := x_ret h
      exact x_zret C rfl dX8_asleepOrAlone_25
    · replace h := x_itp hc h
      refine x_iconst C (1 : Int32) dX8_asleepOrAlone_20 (by decide) ?_
      refine x_goto C 25 dX8_asleepOrAlone_21 rfl ?_
      obtain ⟨rfl, rfl⟩ := x_ret h
      exact x_zret C rfl dX8_asleepOrAlone_25
abbrev rm_X8_aunt : Room := { frames := 2, cells := 0, slots := 0, locals := 43 }
set_option maxHeartbeats 4000000 in
set_option maxRecDepth 100000 in
theorem c_X8_aunt (hG : x_OK TX G) {x1 : Int32} {x2 : Int32} {σ τ : x_Hp} {r : Int32} (h : F_X8_aunt x1 x2 σ = some (r, τ)) : x_M l TX G yX8_aunt cX8_aunt 3 (some .int) rm_X8_aunt [.ref (x_ad G 0), .int x1, .int x2] σ (some (.int r)) τ := by
  refine x_M.of hG (lv := [(0, .ref (x_ad G 0)), (1, .int x1), (2, .int x2)]) (by decide) (Nat.le_of_ble_eq_true rfl) rfl (fun p e s m below meth c C => ?_)
  rw [F_X8_aunt] at h
  refine x_aload_n C 0 dX8_aunt_0 rfl rfl ?_
  refine x_iload_n C 1 dX8_aunt_1 rfl rfl ?_
  obtain ⟨v1, σ1, hc1, h⟩ := x_b_some h
  refine x_callV C (n := 1) (c_X8_isAunt hG hc1) kX_0 (by decide) rfl wd_831 wd_833 wd_27 wd_102 wd_834 (by decide +kernel) rfl ⟨Nat.le_of_ble_eq_true rfl, Nat.le_of_ble_eq_true rfl⟩ ⟨rfl, rfl⟩ rfl (Nat.le_of_ble_eq_true rfl) dX8_aunt_2 ?_
  refine x_if_eq C 18 dX8_aunt_5 rfl (fun hc => ?_) (fun hc => ?_)
  · replace h := x_itp hc h
    refine x_iconst C (-1 : Int32) dX8_aunt_18 (by decide) ?_
    obtain ⟨rfl, rfl⟩ := x_ret h
    exact x_iret C dX8_aunt_19
  · replace h := x_itn hc h
    refine x_iload_n C 2 dX8_aunt_8 rfl rfl ?_
    refine x_iconst C (0 : Int32) dX8_aunt_9 (by decide) ?_
    refine x_bipush C (6 : Int32) dX8_aunt_10 (by decide) ?_
    obtain ⟨v2, σ2, hc2, h⟩ := x_b_some h
    refine x_callS C (n := 3) (c_X8_between hG hc2) wd_835 wd_836 wd_102 wd_837 (by decide +kernel) rfl ⟨Nat.le_of_ble_eq_true rfl, Nat.le_of_ble_eq_true rfl⟩ ⟨rfl, rfl⟩ rfl (Nat.le_of_ble_eq_true rfl) dX8_aunt_12 ?_
    refine x_if_ne C 20 dX8_aunt_15 rfl (fun hc => ?_) (fun hc => ?_)
    · replace h := x_itn hc h
      refine x_iload_n C 2 dX8_aunt_20 rfl rfl ?_
      refine x_iconst C (5 : Int32) dX8_aunt_21 (by decide) ?_
      refine x_icmp_ne C 39 dX8_aunt_22 rfl (fun hc => ?_) (fun hc => ?_)
      · replace h := x_itn hc h
        refine x_aload_n C 0 dX8_aunt_39 rfl rfl ?_
        refine x_getRq C (k := 3) kX_0 (by decide) rfl x_in8 (by decide) (by decide) rfl rfl wd_546 rfX_0_3 dX8_aunt_40 ?_
        refine x_iload_n C 1 dX8_aunt_43 rfl rfl ?_
        refine x_iload_n C 2 dX8_aunt_44 rfl rfl ?_
        obtain ⟨v3, σ3, hc3, h⟩ := x_b_some h
        refine x_callV C (n := 2) (c_X5_tallied hG kX_35 hc3) kX_35 (by decide) rfl wd_839 wd_840 wd_841 wd_107 wd_842 (by decide +kernel) rfl ⟨Nat.le_of_ble_eq_true rfl, Nat.le_of_ble_eq_true rfl⟩ ⟨rfl, rfl⟩ rfl (Nat.le_of_ble_eq_true rfl) dX8_aunt_45 ?_
        obtain ⟨rfl, rfl⟩ := x_ret h
        exact x_iret C dX8_aunt_48
      · replace h := x_itp hc h
        refine x_aload_n C 0 dX8_aunt_25 rfl rfl ?_
        refine x_getRq C (k := 0) kX_0 (by decide) rfl x_in8 (by decide) (by decide) rfl rfl wd_543 rfX_0_0 dX8_aunt_26 ?_
        refine x_getRq C (k := 9) kX_1 (by decide) rfl x_in6 (by decide) (by decide) rfl rfl wd_192 rfX_1_9 dX8_aunt_29 ?_
        refine x_iload_n C 1 dX8_aunt_32 rfl rfl ?_
        obtain ⟨v4, σ4, hc4, h⟩ := x_b_some h
        refine x_callS C (n := 2) (c_X8_at hG kX_3 hc4) wd_838 wd_541 wd_102 wd_542 (by decide +kernel) rfl ⟨Nat.le_of_ble_eq_true rfl, Nat.le_of_ble_eq_true rfl⟩ ⟨rfl, rfl⟩ rfl (Nat.le_of_ble_eq_true rfl) dX8_aunt_33 ?_
        refine x_goto C 48 dX8_aunt_36 rfl ?_
        obtain ⟨rfl, rfl⟩ := x_ret h
        exact x_iret C dX8_aunt_48
    · replace h := x_itp hc h
      refine x_iconst C (-1 : Int32) dX8_aunt_18 (by decide) ?_
      obtain ⟨rfl, rfl⟩ := x_ret h
      exact x_iret C dX8_aunt_19
abbrev rm_X8_law : Room := { frames := 3, cells := 0, slots := 0, locals := 77 }
set_option maxHeartbeats 4000000 in
set_option maxRecDepth 100000 in
theorem c_X8_law (hG : x_OK TX G) {x1 : Int32} {σ τ : x_Hp} {r : Int32} (h : F_X8_law x1 σ = some (r, τ)) : x_M l TX G yX8_law cX8_law 2 (some .int) rm_X8_law [.ref (x_ad G 0), .int x1] σ (some (.int r)) τ := by
  refine x_M.of hG (lv := [(0, .ref (x_ad G 0)), (1, .int x1)]) (by decide) (Nat.le_of_ble_eq_true rfl) rfl (fun p e s m below meth c C => ?_)
  rw [F_X8_law] at h
  refine x_iload_n C 1 dX8_law_0 rfl rfl ?_
  refine x_iconst C (0 : Int32) dX8_law_1 (by decide) ?_
  refine x_bipush C (6 : Int32) dX8_law_2 (by decide) ?_
  obtain ⟨v1, σ1, hc1, h⟩ := x_b_some h
  refine x_callS C (n := 3) (c_X8_between hG hc1) wd_835 wd_836 wd_102 wd_837 (by decide +kernel) rfl ⟨Nat.le_of_ble_eq_true rfl, Nat.le_of_ble_eq_true rfl⟩ ⟨rfl, rfl⟩ rfl (Nat.le_of_ble_eq_true rfl) dX8_law_4 ?_
  refine x_if_eq C 20 dX8_law_7 rfl (fun hc => ?_) (fun hc => ?_)
  · replace h := x_itp hc h
    refine x_sipush C (-10000 : Int32) dX8_law_20 (by decide) ?_
    obtain ⟨rfl, rfl⟩ := x_ret h
    exact x_iret C dX8_law_23
  · replace h := x_itn hc h
    refine x_aload_n C 0 dX8_law_10 rfl rfl ?_
    refine x_getRq C (k := 0) kX_0 (by decide) rfl x_in8 (by decide) (by decide) rfl rfl wd_543 rfX_0_0 dX8_law_11 ?_
    refine x_getI C (k := 7) kX_1 (by decide) rfl x_in6 (by decide) (by decide) rfl rfl wd_187 dX8_law_14 ?_
    refine x_if_ne C 24 dX8_law_17 rfl (fun hc => ?_) (fun hc => ?_)
    · replace h := x_itn hc h
      refine x_aload_n C 0 dX8_law_24 rfl rfl ?_
      refine x_getRq C (k := 0) kX_0 (by decide) rfl x_in8 (by decide) (by decide) rfl rfl wd_543 rfX_0_0 dX8_law_25 ?_
      refine x_getRq C (k := 14) kX_1 (by decide) rfl x_in6 (by decide) (by decide) rfl rfl wd_203 rfX_1_14 dX8_law_28 ?_
      refine x_iload_n C 1 dX8_law_31 rfl rfl ?_
      refine x_aload_n C 0 dX8_law_32 rfl rfl ?_
      refine x_getRq C (k := 3) kX_0 (by decide) rfl x_in8 (by decide) (by decide) rfl rfl wd_546 rfX_0_3 dX8_law_33 ?_
      obtain ⟨v2, σ2, hc2, h⟩ := x_b_some h
      refine x_callV C (n := 2) (c_X1_tells hG kX_8 kX_35 hc2) kX_8 (by decide) rfl wd_848 wd_849 wd_850 wd_104 wd_851 (by decide +kernel) rfl ⟨Nat.le_of_ble_eq_true rfl, Nat.le_of_ble_eq_true rfl⟩ ⟨rfl, rfl⟩ rfl (Nat.le_of_ble_eq_true rfl) dX8_law_36 ?_
      obtain ⟨rfl, rfl⟩ := x_ret h
      exact x_iret C dX8_law_39
    · replace h := x_itp hc h
      refine x_sipush C (-10000 : Int32) dX8_law_20 (by decide) ?_
      obtain ⟨rfl, rfl⟩ := x_ret h
      exact x_iret C dX8_law_23
abbrev rm_X8_minutes : Room := { frames := 6, cells := 0, slots := 0, locals := 146 }
set_option maxHeartbeats 4000000 in
set_option maxRecDepth 100000 in
theorem c_X8_minutes (hG : x_OK TX G) {x1 : Int32} {σ τ : x_Hp} {r : Int32} (h : F_X8_minutes x1 σ = some (r, τ)) : x_M l TX G yX8_minutes cX8_minutes 2 (some .int) rm_X8_minutes [.ref (x_ad G 0), .int x1] σ (some (.int r)) τ := by
  refine x_M.of hG (lv := [(0, .ref (x_ad G 0)), (1, .int x1)]) (by decide) (Nat.le_of_ble_eq_true rfl) rfl (fun p e s m below meth c C => ?_)
  rw [F_X8_minutes] at h
  refine x_iload_n C 1 dX8_minutes_0 rfl rfl ?_
  refine x_iconst C (0 : Int32) dX8_minutes_1 (by decide) ?_
  refine x_sipush C (240 : Int32) dX8_minutes_2 (by decide) ?_
  obtain ⟨v1, σ1, hc1, h⟩ := x_b_some h
  refine x_callS C (n := 3) (c_X8_between hG hc1) wd_835 wd_836 wd_102 wd_837 (by decide +kernel) rfl ⟨Nat.le_of_ble_eq_true rfl, Nat.le_of_ble_eq_true rfl⟩ ⟨rfl, rfl⟩ rfl (Nat.le_of_ble_eq_true rfl) dX8_minutes_5 ?_
  refine x_if_ne C 13 dX8_minutes_8 rfl (fun hc => ?_) (fun hc => ?_)
  · replace h := x_itn hc h
    refine x_iload_n C 1 dX8_minutes_13 rfl rfl ?_
    refine x_if_le C 40 dX8_minutes_14 rfl (fun hc => ?_) (fun hc => ?_)
    · replace h := x_itp hc h
      refine x_aload_n C 0 dX8_minutes_40 rfl rfl ?_
      refine x_getRq C (k := 3) kX_0 (by decide) rfl x_in8 (by decide) (by decide) rfl rfl wd_546 rfX_0_3 dX8_minutes_41 ?_
      refine x_getI C (k := 15) kX_35 (by decide) rfl x_in5 (by decide) (by decide) rfl rfl wd_350 dX8_minutes_44 ?_
      obtain ⟨rfl, rfl⟩ := x_ret h
      exact x_iret C dX8_minutes_47
    · replace h := x_itn hc h
      refine x_aload_n C 0 dX8_minutes_17 rfl rfl ?_
      refine x_getRq C (k := 5) kX_0 (by decide) rfl x_in8 (by decide) (by decide) rfl rfl wd_548 rfX_0_5 dX8_minutes_18 ?_
      refine x_aload_n C 0 dX8_minutes_21 rfl rfl ?_
      refine x_getRq C (k := 3) kX_0 (by decide) rfl x_in8 (by decide) (by decide) rfl rfl wd_546 rfX_0_3 dX8_minutes_22 ?_
      obtain ⟨v2, σ2, hc2, h⟩ := x_b_some h
      refine x_callV C (n := 1) (c_X7_note hG kX_35 hc2) kX_39 (by decide) rfl wd_881 wd_882 wd_883 wd_108 wd_884 (by decide +kernel) rfl ⟨Nat.le_of_ble_eq_true rfl, Nat.le_of_ble_eq_true rfl⟩ ⟨rfl, rfl⟩ rfl (Nat.le_of_ble_eq_true rfl) dX8_minutes_25 ?_
      refine x_aload_n C 0 dX8_minutes_28 rfl rfl ?_
      refine x_getRq C (k := 2) kX_0 (by decide) rfl x_in8 (by decide) (by decide) rfl rfl wd_545 rfX_0_2 dX8_minutes_29 ?_
      refine x_aload_n C 0 dX8_minutes_32 rfl rfl ?_
      refine x_getRq C (k := 3) kX_0 (by decide) rfl x_in8 (by decide) (by decide) rfl rfl wd_546 rfX_0_3 dX8_minutes_33 ?_
      refine x_iload_n C 1 dX8_minutes_36 rfl rfl ?_
      obtain ⟨v3, σ3, hc3, h⟩ := x_b_some h
      refine x_callV C (n := 2) (c_X0_goOn hG kX_34 kX_35 hc3) kX_34 (by decide) rfl wd_891 wd_892 wd_893 wd_106 wd_894 (by decide +kernel) rfl ⟨Nat.le_of_ble_eq_true rfl, Nat.le_of_ble_eq_true rfl⟩ ⟨rfl, rfl⟩ rfl (Nat.le_of_ble_eq_true rfl) dX8_minutes_37 ?_
      refine x_aload_n C 0 dX8_minutes_40 rfl rfl ?_
      refine x_getRq C (k := 3) kX_0 (by decide) rfl x_in8 (by decide) (by decide) rfl rfl wd_546 rfX_0_3 dX8_minutes_41 ?_
      refine x_getI C (k := 15) kX_35 (by decide) rfl x_in5 (by decide) (by decide) rfl rfl wd_350 dX8_minutes_44 ?_
      obtain ⟨rfl, rfl⟩ := x_ret h
      exact x_iret C dX8_minutes_47
  · replace h := x_itp hc h
    refine x_iconst C (-1 : Int32) dX8_minutes_11 (by decide) ?_
    obtain ⟨rfl, rfl⟩ := x_ret h
    exact x_iret C dX8_minutes_12
abbrev rm_X8_hand : Room := { frames := 3, cells := 0, slots := 0, locals := 65 }
set_option maxHeartbeats 4000000 in
set_option maxRecDepth 100000 in
theorem c_X8_hand (hG : x_OK TX G) {x1 : Int32} {σ τ : x_Hp} {r : Int32} (h : F_X8_hand x1 σ = some (r, τ)) : x_M l TX G yX8_hand cX8_hand 2 (some .boolean) rm_X8_hand [.ref (x_ad G 0), .int x1] σ (some (.int r)) τ := by
  refine x_M.of hG (lv := [(0, .ref (x_ad G 0)), (1, .int x1)]) (by decide) (Nat.le_of_ble_eq_true rfl) rfl (fun p e s m below meth c C => ?_)
  rw [F_X8_hand] at h
  refine x_aload_n C 0 dX8_hand_0 rfl rfl ?_
  refine x_iload_n C 1 dX8_hand_1 rfl rfl ?_
  obtain ⟨v1, σ1, hc1, h⟩ := x_b_some h
  refine x_callV C (n := 1) (c_X8_isAunt hG hc1) kX_0 (by decide) rfl wd_831 wd_833 wd_27 wd_102 wd_834 (by decide +kernel) rfl ⟨Nat.le_of_ble_eq_true rfl, Nat.le_of_ble_eq_true rfl⟩ ⟨rfl, rfl⟩ rfl (Nat.le_of_ble_eq_true rfl) dX8_hand_2 ?_
  refine x_if_eq C 29 dX8_hand_5 rfl (fun hc => ?_) (fun hc => ?_)
  · replace h := x_itp hc h
    refine x_iconst C (0 : Int32) dX8_hand_29 (by decide) ?_
    obtain ⟨rfl, rfl⟩ := x_ret h
    exact x_zret C rfl dX8_hand_30
  · replace h := x_itn hc h
    refine x_iload_n C 1 dX8_hand_8 rfl rfl ?_
    refine x_aload_n C 0 dX8_hand_9 rfl rfl ?_
    refine x_getRq C (k := 3) kX_0 (by decide) rfl x_in8 (by decide) (by decide) rfl rfl wd_546 rfX_0_3 dX8_hand_10 ?_
    refine x_getI C (k := 9) kX_35 (by decide) rfl x_in5 (by decide) (by decide) rfl rfl wd_332 dX8_hand_13 ?_
    refine x_icmp_eq C 29 dX8_hand_16 rfl (fun hc => ?_) (fun hc => ?_)
    · replace h := x_itp hc h
      refine x_iconst C (0 : Int32) dX8_hand_29 (by decide) ?_
      obtain ⟨rfl, rfl⟩ := x_ret h
      exact x_zret C rfl dX8_hand_30
    · replace h := x_itn hc h
      refine x_aload_n C 0 dX8_hand_19 rfl rfl ?_
      refine x_getRq C (k := 3) kX_0 (by decide) rfl x_in8 (by decide) (by decide) rfl rfl wd_546 rfX_0_3 dX8_hand_20 ?_
      refine x_getI C (k := 13) kX_35 (by decide) rfl x_in5 (by decide) (by decide) rfl rfl wd_344 dX8_hand_23 ?_
      refine x_if_le C 31 dX8_hand_26 rfl (fun hc => ?_) (fun hc => ?_)
      · replace h := x_itp hc h
        refine x_aload_n C 0 dX8_hand_31 rfl rfl ?_
        refine x_getRq C (k := 5) kX_0 (by decide) rfl x_in8 (by decide) (by decide) rfl rfl wd_548 rfX_0_5 dX8_hand_32 ?_
        refine x_aload_n C 0 dX8_hand_35 rfl rfl ?_
        refine x_getRq C (k := 3) kX_0 (by decide) rfl x_in8 (by decide) (by decide) rfl rfl wd_546 rfX_0_3 dX8_hand_36 ?_
        obtain ⟨v2, σ2, hc2, h⟩ := x_b_some h
        refine x_callV C (n := 1) (c_X7_note hG kX_35 hc2) kX_39 (by decide) rfl wd_881 wd_882 wd_883 wd_108 wd_884 (by decide +kernel) rfl ⟨Nat.le_of_ble_eq_true rfl, Nat.le_of_ble_eq_true rfl⟩ ⟨rfl, rfl⟩ rfl (Nat.le_of_ble_eq_true rfl) dX8_hand_39 ?_
        refine x_aload_n C 0 dX8_hand_42 rfl rfl ?_
        refine x_getRq C (k := 2) kX_0 (by decide) rfl x_in8 (by decide) (by decide) rfl rfl wd_545 rfX_0_2 dX8_hand_43 ?_
        refine x_aload_n C 0 dX8_hand_46 rfl rfl ?_
        refine x_getRq C (k := 3) kX_0 (by decide) rfl x_in8 (by decide) (by decide) rfl rfl wd_546 rfX_0_3 dX8_hand_47 ?_
        refine x_iload_n C 1 dX8_hand_50 rfl rfl ?_
        obtain ⟨v3, σ3, hc3, h⟩ := x_b_some h
        refine x_callV C (n := 2) (c_X0_giveOver hG kX_34 kX_35 hc3) kX_34 (by decide) rfl wd_929 wd_930 wd_931 wd_106 wd_932 (by decide +kernel) rfl ⟨Nat.le_of_ble_eq_true rfl, Nat.le_of_ble_eq_true rfl⟩ ⟨rfl, rfl⟩ rfl (Nat.le_of_ble_eq_true rfl) dX8_hand_51 ?_
        refine x_iconst C (1 : Int32) dX8_hand_54 (by decide) ?_
        obtain ⟨rfl, rfl⟩ := x_ret h
        exact x_zret C rfl dX8_hand_55
      · replace h := x_itn hc h
        refine x_iconst C (0 : Int32) dX8_hand_29 (by decide) ?_
        obtain ⟨rfl, rfl⟩ := x_ret h
        exact x_zret C rfl dX8_hand_30
abbrev rm_X8_nurse : Room := { frames := 3, cells := 0, slots := 0, locals := 64 }
set_option maxHeartbeats 4000000 in
set_option maxRecDepth 100000 in
theorem c_X8_nurse (hG : x_OK TX G) {σ τ : x_Hp} {r : Int32} (h : F_X8_nurse σ = some (r, τ)) : x_M l TX G yX8_nurse cX8_nurse 1 (some .boolean) rm_X8_nurse [.ref (x_ad G 0)] σ (some (.int r)) τ := by
  refine x_M.of hG (lv := [(0, .ref (x_ad G 0))]) (by decide) (Nat.le_of_ble_eq_true rfl) rfl (fun p e s m below meth c C => ?_)
  rw [F_X8_nurse] at h
  refine x_aload_n C 0 dX8_nurse_0 rfl rfl ?_
  obtain ⟨v1, σ1, hc1, h⟩ := x_b_some h
  refine x_callV C (n := 0) (c_X8_asleepOrAlone hG hc1) kX_0 (by decide) rfl wd_938 wd_940 wd_33 wd_102 wd_941 (by decide +kernel) rfl ⟨Nat.le_of_ble_eq_true rfl, Nat.le_of_ble_eq_true rfl⟩ ⟨rfl, rfl⟩ rfl (Nat.le_of_ble_eq_true rfl) dX8_nurse_1 ?_
  refine x_if_eq C 9 dX8_nurse_4 rfl (fun hc => ?_) (fun hc => ?_)
  · replace h := x_itp hc h
    refine x_aload_n C 0 dX8_nurse_9 rfl rfl ?_
    refine x_getRq C (k := 5) kX_0 (by decide) rfl x_in8 (by decide) (by decide) rfl rfl wd_548 rfX_0_5 dX8_nurse_10 ?_
    refine x_aload_n C 0 dX8_nurse_13 rfl rfl ?_
    refine x_getRq C (k := 3) kX_0 (by decide) rfl x_in8 (by decide) (by decide) rfl rfl wd_546 rfX_0_3 dX8_nurse_14 ?_
    obtain ⟨v2, σ2, hc2, h⟩ := x_b_some h
    refine x_callV C (n := 1) (c_X7_note hG kX_35 hc2) kX_39 (by decide) rfl wd_881 wd_882 wd_883 wd_108 wd_884 (by decide +kernel) rfl ⟨Nat.le_of_ble_eq_true rfl, Nat.le_of_ble_eq_true rfl⟩ ⟨rfl, rfl⟩ rfl (Nat.le_of_ble_eq_true rfl) dX8_nurse_17 ?_
    refine x_aload_n C 0 dX8_nurse_20 rfl rfl ?_
    refine x_getRq C (k := 2) kX_0 (by decide) rfl x_in8 (by decide) (by decide) rfl rfl wd_545 rfX_0_2 dX8_nurse_21 ?_
    refine x_aload_n C 0 dX8_nurse_24 rfl rfl ?_
    refine x_getRq C (k := 3) kX_0 (by decide) rfl x_in8 (by decide) (by decide) rfl rfl wd_546 rfX_0_3 dX8_nurse_25 ?_
    obtain ⟨v3, σ3, hc3, h⟩ := x_b_some h
    refine x_callV C (n := 1) (c_X0_feedNow hG kX_34 kX_35 hc3) kX_34 (by decide) rfl wd_942 wd_943 wd_944 wd_106 wd_945 (by decide +kernel) rfl ⟨Nat.le_of_ble_eq_true rfl, Nat.le_of_ble_eq_true rfl⟩ ⟨rfl, rfl⟩ rfl (Nat.le_of_ble_eq_true rfl) dX8_nurse_28 ?_
    refine x_iconst C (1 : Int32) dX8_nurse_31 (by decide) ?_
    obtain ⟨rfl, rfl⟩ := x_ret h
    exact x_zret C rfl dX8_nurse_32
  · replace h := x_itn hc h
    refine x_iconst C (0 : Int32) dX8_nurse_7 (by decide) ?_
    obtain ⟨rfl, rfl⟩ := x_ret h
    exact x_zret C rfl dX8_nurse_8
abbrev rm_X8_lay : Room := { frames := 3, cells := 0, slots := 0, locals := 64 }
set_option maxHeartbeats 4000000 in
set_option maxRecDepth 100000 in
theorem c_X8_lay (hG : x_OK TX G) {σ τ : x_Hp} {r : Int32} (h : F_X8_lay σ = some (r, τ)) : x_M l TX G yX8_lay cX8_lay 1 (some .boolean) rm_X8_lay [.ref (x_ad G 0)] σ (some (.int r)) τ := by
  refine x_M.of hG (lv := [(0, .ref (x_ad G 0))]) (by decide) (Nat.le_of_ble_eq_true rfl) rfl (fun p e s m below meth c C => ?_)
  rw [F_X8_lay] at h
  refine x_aload_n C 0 dX8_lay_0 rfl rfl ?_
  obtain ⟨v1, σ1, hc1, h⟩ := x_b_some h
  refine x_callV C (n := 0) (c_X8_asleepOrAlone hG hc1) kX_0 (by decide) rfl wd_938 wd_940 wd_33 wd_102 wd_941 (by decide +kernel) rfl ⟨Nat.le_of_ble_eq_true rfl, Nat.le_of_ble_eq_true rfl⟩ ⟨rfl, rfl⟩ rfl (Nat.le_of_ble_eq_true rfl) dX8_lay_1 ?_
  refine x_if_eq C 9 dX8_lay_4 rfl (fun hc => ?_) (fun hc => ?_)
  · replace h := x_itp hc h
    refine x_aload_n C 0 dX8_lay_9 rfl rfl ?_
    refine x_getRq C (k := 5) kX_0 (by decide) rfl x_in8 (by decide) (by decide) rfl rfl wd_548 rfX_0_5 dX8_lay_10 ?_
    refine x_aload_n C 0 dX8_lay_13 rfl rfl ?_
    refine x_getRq C (k := 3) kX_0 (by decide) rfl x_in8 (by decide) (by decide) rfl rfl wd_546 rfX_0_3 dX8_lay_14 ?_
    obtain ⟨v2, σ2, hc2, h⟩ := x_b_some h
    refine x_callV C (n := 1) (c_X7_note hG kX_35 hc2) kX_39 (by decide) rfl wd_881 wd_882 wd_883 wd_108 wd_884 (by decide +kernel) rfl ⟨Nat.le_of_ble_eq_true rfl, Nat.le_of_ble_eq_true rfl⟩ ⟨rfl, rfl⟩ rfl (Nat.le_of_ble_eq_true rfl) dX8_lay_17 ?_
    refine x_aload_n C 0 dX8_lay_20 rfl rfl ?_
    refine x_getRq C (k := 2) kX_0 (by decide) rfl x_in8 (by decide) (by decide) rfl rfl wd_545 rfX_0_2 dX8_lay_21 ?_
    refine x_aload_n C 0 dX8_lay_24 rfl rfl ?_
    refine x_getRq C (k := 3) kX_0 (by decide) rfl x_in8 (by decide) (by decide) rfl rfl wd_546 rfX_0_3 dX8_lay_25 ?_
    obtain ⟨v3, σ3, hc3, h⟩ := x_b_some h
    refine x_callV C (n := 1) (c_X0_fallAsleep hG kX_34 kX_35 hc3) kX_34 (by decide) rfl wd_950 wd_922 wd_923 wd_106 wd_924 (by decide +kernel) rfl ⟨Nat.le_of_ble_eq_true rfl, Nat.le_of_ble_eq_true rfl⟩ ⟨rfl, rfl⟩ rfl (Nat.le_of_ble_eq_true rfl) dX8_lay_28 ?_
    refine x_iconst C (1 : Int32) dX8_lay_31 (by decide) ?_
    obtain ⟨rfl, rfl⟩ := x_ret h
    exact x_zret C rfl dX8_lay_32
  · replace h := x_itn hc h
    refine x_iconst C (0 : Int32) dX8_lay_7 (by decide) ?_
    obtain ⟨rfl, rfl⟩ := x_ret h
    exact x_zret C rfl dX8_lay_8
abbrev rm_X8_cloth : Room := { frames := 3, cells := 0, slots := 0, locals := 64 }
set_option maxHeartbeats 4000000 in
set_option maxRecDepth 100000 in
theorem w_X8_cloth_41 {r : Int32} {τ : x_Hp} (C : x_C p s m args meth c cX8_cloth 3 (some .boolean) yX8_cloth.cls TX G) (x2 : Int32) (s0 : Int32) (σ : x_Hp) (h : F_X8_cloth_41 x2 s0 σ = some (r, τ)) : x_W p l e rm_X8_cloth s m args below meth c (MQ below (x_Q TX G (some (.int r)) τ) args s 0 0 (x_A TX G)) TX G 3 41 [(2, .int x2)] [.int s0, .ref (x_ad G 35)] σ := by
  have hG : x_OK TX G := C.2.2.2.2.2.2.2.2.1
  rw [F_X8_cloth_41] at h
  refine x_putI C (k := 14) tyX5 kX_35 (by decide) rfl x_in5 tyX5_ok nmX5 (by decide) (by decide) rfl rfl wd_347 rfl (tyX5_ok 14 (by decide)) rfl rfl dX8_cloth_41 (x_gen h fun σ2 h => ?_)
  refine x_iload_n C 0 dX8_cloth_44 rfl rfl ?_
  obtain ⟨hg, h⟩ := x_gd_some h
  obtain ⟨rfl, rfl⟩ := x_ret h
  exact x_zret C (x_isz_n hg) dX8_cloth_45
set_option maxHeartbeats 4000000 in
set_option maxRecDepth 100000 in
theorem w_X8_cloth_16 {r : Int32} {τ : x_Hp} (C : x_C p s m args meth c cX8_cloth 3 (some .boolean) yX8_cloth.cls TX G) (x1 : Int32) (s0 : Int32) (σ : x_Hp) (h : F_X8_cloth_16 x1 s0 σ = some (r, τ)) : x_W p l e rm_X8_cloth s m args below meth c (MQ below (x_Q TX G (some (.int r)) τ) args s 0 0 (x_A TX G)) TX G 3 16 [(0, .ref (x_ad G 0)), (1, .int x1)] [.int s0] σ := by
  have hG : x_OK TX G := C.2.2.2.2.2.2.2.2.1
  rw [F_X8_cloth_16] at h
  refine x_istore_n C [(2, .int s0), (0, .ref (x_ad G 0)), (1, .int x1)] dX8_cloth_16 rfl (by decide) rfl ?_
  refine x_aload_n C 1 dX8_cloth_17 rfl rfl ?_
  refine x_getRq C (k := 5) kX_0 (by decide) rfl x_in8 (by decide) (by decide) rfl rfl wd_548 rfX_0_5 dX8_cloth_18 ?_
  refine x_aload_n C 1 dX8_cloth_21 rfl rfl ?_
  refine x_getRq C (k := 3) kX_0 (by decide) rfl x_in8 (by decide) (by decide) rfl rfl wd_546 rfX_0_3 dX8_cloth_22 ?_
  obtain ⟨v1, σ1, hc1, h⟩ := x_b_some h
  refine x_callV C (n := 1) (c_X7_note hG kX_35 hc1) kX_39 (by decide) rfl wd_881 wd_882 wd_883 wd_108 wd_884 (by decide +kernel) rfl ⟨Nat.le_of_ble_eq_true rfl, Nat.le_of_ble_eq_true rfl⟩ ⟨rfl, rfl⟩ rfl (Nat.le_of_ble_eq_true rfl) dX8_cloth_25 ?_
  refine x_aload_n C 1 dX8_cloth_28 rfl rfl ?_
  refine x_getRq C (k := 3) kX_0 (by decide) rfl x_in8 (by decide) (by decide) rfl rfl wd_546 rfX_0_3 dX8_cloth_29 ?_
  refine x_iload_n C 2 dX8_cloth_32 rfl rfl ?_
  refine x_if_eq C 40 dX8_cloth_33 rfl (fun hc => ?_) (fun hc => ?_)
  · replace h := x_itp hc h
    refine x_iconst C (0 : Int32) dX8_cloth_40 (by decide) ?_
    exact x_sub [0] rfl (w_X8_cloth_41 C s0 (0 : Int32) σ1 h)
  · replace h := x_itn hc h
    refine x_iconst C (1 : Int32) dX8_cloth_36 (by decide) ?_
    refine x_goto C 41 dX8_cloth_37 rfl ?_
    exact x_sub [0] rfl (w_X8_cloth_41 C s0 (1 : Int32) σ1 h)
set_option maxHeartbeats 4000000 in
set_option maxRecDepth 100000 in
theorem c_X8_cloth (hG : x_OK TX G) {x1 : Int32} {σ τ : x_Hp} {r : Int32} (h : F_X8_cloth x1 σ = some (r, τ)) : x_M l TX G yX8_cloth cX8_cloth 3 (some .boolean) rm_X8_cloth [.ref (x_ad G 0), .int x1] σ (some (.int r)) τ := by
  refine x_M.of hG (lv := [(0, .ref (x_ad G 0)), (1, .int x1)]) (by decide) (Nat.le_of_ble_eq_true rfl) rfl (fun p e s m below meth c C => ?_)
  rw [F_X8_cloth] at h
  refine x_aload_n C 0 dX8_cloth_0 rfl rfl ?_
  refine x_getRq C (k := 3) kX_0 (by decide) rfl x_in8 (by decide) (by decide) rfl rfl wd_546 rfX_0_3 dX8_cloth_1 ?_
  refine x_getI C (k := 14) kX_35 (by decide) rfl x_in5 (by decide) (by decide) rfl rfl wd_347 dX8_cloth_4 ?_
  refine x_iconst C (1 : Int32) dX8_cloth_7 (by decide) ?_
  refine x_icmp_ne C 15 dX8_cloth_8 rfl (fun hc => ?_) (fun hc => ?_)
  · replace h := x_itn hc h
    refine x_iconst C (0 : Int32) dX8_cloth_15 (by decide) ?_
    exact x_sub [0, 1] rfl (w_X8_cloth_16 C x1 (0 : Int32) σ h)
  · replace h := x_itp hc h
    refine x_iconst C (1 : Int32) dX8_cloth_11 (by decide) ?_
    refine x_goto C 16 dX8_cloth_12 rfl ?_
    exact x_sub [0, 1] rfl (w_X8_cloth_16 C x1 (1 : Int32) σ h)
abbrev rm_X8_mother : Room := { frames := 3, cells := 0, slots := 0, locals := 64 }
set_option maxHeartbeats 4000000 in
set_option maxRecDepth 100000 in
theorem w_X8_mother_41 {r : Int32} {τ : x_Hp} (C : x_C p s m args meth c cX8_mother 3 (some .boolean) yX8_mother.cls TX G) (x2 : Int32) (s0 : Int32) (σ : x_Hp) (h : F_X8_mother_41 x2 s0 σ = some (r, τ)) : x_W p l e rm_X8_mother s m args below meth c (MQ below (x_Q TX G (some (.int r)) τ) args s 0 0 (x_A TX G)) TX G 3 41 [(2, .int x2)] [.int s0, .ref (x_ad G 35)] σ := by
  have hG : x_OK TX G := C.2.2.2.2.2.2.2.2.1
  rw [F_X8_mother_41] at h
  refine x_putI C (k := 8) tyX5 kX_35 (by decide) rfl x_in5 tyX5_ok nmX5 (by decide) (by decide) rfl rfl wd_329 rfl (tyX5_ok 8 (by decide)) rfl rfl dX8_mother_41 (x_gen h fun σ2 h => ?_)
  refine x_iload_n C 0 dX8_mother_44 rfl rfl ?_
  obtain ⟨hg, h⟩ := x_gd_some h
  obtain ⟨rfl, rfl⟩ := x_ret h
  exact x_zret C (x_isz_n hg) dX8_mother_45
set_option maxHeartbeats 4000000 in
set_option maxRecDepth 100000 in
theorem w_X8_mother_16 {r : Int32} {τ : x_Hp} (C : x_C p s m args meth c cX8_mother 3 (some .boolean) yX8_mother.cls TX G) (x1 : Int32) (s0 : Int32) (σ : x_Hp) (h : F_X8_mother_16 x1 s0 σ = some (r, τ)) : x_W p l e rm_X8_mother s m args below meth c (MQ below (x_Q TX G (some (.int r)) τ) args s 0 0 (x_A TX G)) TX G 3 16 [(0, .ref (x_ad G 0)), (1, .int x1)] [.int s0] σ := by
  have hG : x_OK TX G := C.2.2.2.2.2.2.2.2.1
  rw [F_X8_mother_16] at h
  refine x_istore_n C [(2, .int s0), (0, .ref (x_ad G 0)), (1, .int x1)] dX8_mother_16 rfl (by decide) rfl ?_
  refine x_aload_n C 1 dX8_mother_17 rfl rfl ?_
  refine x_getRq C (k := 5) kX_0 (by decide) rfl x_in8 (by decide) (by decide) rfl rfl wd_548 rfX_0_5 dX8_mother_18 ?_
  refine x_aload_n C 1 dX8_mother_21 rfl rfl ?_
  refine x_getRq C (k := 3) kX_0 (by decide) rfl x_in8 (by decide) (by decide) rfl rfl wd_546 rfX_0_3 dX8_mother_22 ?_
  obtain ⟨v1, σ1, hc1, h⟩ := x_b_some h
  refine x_callV C (n := 1) (c_X7_note hG kX_35 hc1) kX_39 (by decide) rfl wd_881 wd_882 wd_883 wd_108 wd_884 (by decide +kernel) rfl ⟨Nat.le_of_ble_eq_true rfl, Nat.le_of_ble_eq_true rfl⟩ ⟨rfl, rfl⟩ rfl (Nat.le_of_ble_eq_true rfl) dX8_mother_25 ?_
  refine x_aload_n C 1 dX8_mother_28 rfl rfl ?_
  refine x_getRq C (k := 3) kX_0 (by decide) rfl x_in8 (by decide) (by decide) rfl rfl wd_546 rfX_0_3 dX8_mother_29 ?_
  refine x_iload_n C 2 dX8_mother_32 rfl rfl ?_
  refine x_if_eq C 40 dX8_mother_33 rfl (fun hc => ?_) (fun hc => ?_)
  · replace h := x_itp hc h
    refine x_iconst C (0 : Int32) dX8_mother_40 (by decide) ?_
    exact x_sub [0] rfl (w_X8_mother_41 C s0 (0 : Int32) σ1 h)
  · replace h := x_itn hc h
    refine x_iconst C (1 : Int32) dX8_mother_36 (by decide) ?_
    refine x_goto C 41 dX8_mother_37 rfl ?_
    exact x_sub [0] rfl (w_X8_mother_41 C s0 (1 : Int32) σ1 h)
set_option maxHeartbeats 4000000 in
set_option maxRecDepth 100000 in
theorem c_X8_mother (hG : x_OK TX G) {x1 : Int32} {σ τ : x_Hp} {r : Int32} (h : F_X8_mother x1 σ = some (r, τ)) : x_M l TX G yX8_mother cX8_mother 3 (some .boolean) rm_X8_mother [.ref (x_ad G 0), .int x1] σ (some (.int r)) τ := by
  refine x_M.of hG (lv := [(0, .ref (x_ad G 0)), (1, .int x1)]) (by decide) (Nat.le_of_ble_eq_true rfl) rfl (fun p e s m below meth c C => ?_)
  rw [F_X8_mother] at h
  refine x_aload_n C 0 dX8_mother_0 rfl rfl ?_
  refine x_getRq C (k := 3) kX_0 (by decide) rfl x_in8 (by decide) (by decide) rfl rfl wd_546 rfX_0_3 dX8_mother_1 ?_
  refine x_getI C (k := 8) kX_35 (by decide) rfl x_in5 (by decide) (by decide) rfl rfl wd_329 dX8_mother_4 ?_
  refine x_iconst C (1 : Int32) dX8_mother_7 (by decide) ?_
  refine x_icmp_ne C 15 dX8_mother_8 rfl (fun hc => ?_) (fun hc => ?_)
  · replace h := x_itn hc h
    refine x_iconst C (0 : Int32) dX8_mother_15 (by decide) ?_
    exact x_sub [0, 1] rfl (w_X8_mother_16 C x1 (0 : Int32) σ h)
  · replace h := x_itp hc h
    refine x_iconst C (1 : Int32) dX8_mother_11 (by decide) ?_
    refine x_goto C 16 dX8_mother_12 rfl ?_
    exact x_sub [0, 1] rfl (w_X8_mother_16 C x1 (1 : Int32) σ h)
abbrev rm_X8_undo : Room := { frames := 3, cells := 0, slots := 0, locals := 64 }
set_option maxHeartbeats 4000000 in
set_option maxRecDepth 100000 in
theorem c_X8_undo (hG : x_OK TX G) {σ τ : x_Hp} {r : Int32} (h : F_X8_undo σ = some (r, τ)) : x_M l TX G yX8_undo cX8_undo 1 (some .boolean) rm_X8_undo [.ref (x_ad G 0)] σ (some (.int r)) τ := by
  refine x_M.of hG (lv := [(0, .ref (x_ad G 0))]) (by decide) (Nat.le_of_ble_eq_true rfl) rfl (fun p e s m below meth c C => ?_)
  rw [F_X8_undo] at h
  refine x_aload_n C 0 dX8_undo_0 rfl rfl ?_
  refine x_getRq C (k := 5) kX_0 (by decide) rfl x_in8 (by decide) (by decide) rfl rfl wd_548 rfX_0_5 dX8_undo_1 ?_
  refine x_aload_n C 0 dX8_undo_4 rfl rfl ?_
  refine x_getRq C (k := 3) kX_0 (by decide) rfl x_in8 (by decide) (by decide) rfl rfl wd_546 rfX_0_3 dX8_undo_5 ?_
  obtain ⟨v1, σ1, hc1, h⟩ := x_b_some h
  refine x_callV C (n := 1) (c_X7_giveBack hG kX_35 hc1) kX_39 (by decide) rfl wd_963 wd_964 wd_965 wd_108 wd_966 (by decide +kernel) rfl ⟨Nat.le_of_ble_eq_true rfl, Nat.le_of_ble_eq_true rfl⟩ ⟨rfl, rfl⟩ rfl (Nat.le_of_ble_eq_true rfl) dX8_undo_8 ?_
  obtain ⟨hg, h⟩ := x_gd_some h
  obtain ⟨rfl, rfl⟩ := x_ret h
  exact x_zret C (x_isz_n hg) dX8_undo_11
abbrev rm_X8_crying : Room := { frames := 6, cells := 0, slots := 0, locals := 147 }
set_option maxHeartbeats 4000000 in
set_option maxRecDepth 100000 in
theorem c_X8_crying (hG : x_OK TX G) {x1 : Int32} {σ τ : x_Hp} {r : Int32} (h : F_X8_crying x1 σ = some (r, τ)) : x_M l TX G yX8_crying cX8_crying 2 (some .int) rm_X8_crying [.ref (x_ad G 0), .int x1] σ (some (.int r)) τ := by
  refine x_M.of hG (lv := [(0, .ref (x_ad G 0)), (1, .int x1)]) (by decide) (Nat.le_of_ble_eq_true rfl) rfl (fun p e s m below meth c C => ?_)
  rw [F_X8_crying] at h
  refine x_iload_n C 1 dX8_crying_0 rfl rfl ?_
  refine x_iconst C (0 : Int32) dX8_crying_1 (by decide) ?_
  refine x_sipush C (240 : Int32) dX8_crying_2 (by decide) ?_
  obtain ⟨v1, σ1, hc1, h⟩ := x_b_some h
  refine x_callS C (n := 3) (c_X8_between hG hc1) wd_835 wd_836 wd_102 wd_837 (by decide +kernel) rfl ⟨Nat.le_of_ble_eq_true rfl, Nat.le_of_ble_eq_true rfl⟩ ⟨rfl, rfl⟩ rfl (Nat.le_of_ble_eq_true rfl) dX8_crying_5 ?_
  refine x_if_ne C 13 dX8_crying_8 rfl (fun hc => ?_) (fun hc => ?_)
  · replace h := x_itn hc h
    refine x_aload_n C 0 dX8_crying_13 rfl rfl ?_
    refine x_getRq C (k := 4) kX_0 (by decide) rfl x_in8 (by decide) (by decide) rfl rfl wd_547 rfX_0_4 dX8_crying_14 ?_
    refine x_aload_n C 0 dX8_crying_17 rfl rfl ?_
    refine x_getRq C (k := 3) kX_0 (by decide) rfl x_in8 (by decide) (by decide) rfl rfl wd_546 rfX_0_3 dX8_crying_18 ?_
    obtain ⟨v2, σ2, hc2, h⟩ := x_b_some h
    refine x_callV C (n := 1) (c_X5_takeFrom hG kX_37 kX_35 hc2) kX_37 (by decide) rfl wd_971 wd_886 wd_887 wd_107 wd_888 (by decide +kernel) rfl ⟨Nat.le_of_ble_eq_true rfl, Nat.le_of_ble_eq_true rfl⟩ ⟨rfl, rfl⟩ rfl (Nat.le_of_ble_eq_true rfl) dX8_crying_21 ?_
    refine x_aload_n C 0 dX8_crying_24 rfl rfl ?_
    refine x_getRq C (k := 2) kX_0 (by decide) rfl x_in8 (by decide) (by decide) rfl rfl wd_545 rfX_0_2 dX8_crying_25 ?_
    refine x_aload_n C 0 dX8_crying_28 rfl rfl ?_
    refine x_getRq C (k := 4) kX_0 (by decide) rfl x_in8 (by decide) (by decide) rfl rfl wd_547 rfX_0_4 dX8_crying_29 ?_
    refine x_iload_n C 1 dX8_crying_32 rfl rfl ?_
    obtain ⟨v3, σ3, hc3, h⟩ := x_b_some h
    refine x_callV C (n := 2) (c_X0_cried hG kX_34 kX_37 hc3) kX_34 (by decide) rfl wd_972 wd_973 wd_974 wd_106 wd_975 (by decide +kernel) rfl ⟨Nat.le_of_ble_eq_true rfl, Nat.le_of_ble_eq_true rfl⟩ ⟨rfl, rfl⟩ rfl (Nat.le_of_ble_eq_true rfl) dX8_crying_33 ?_
    obtain ⟨rfl, rfl⟩ := x_ret h
    exact x_iret C dX8_crying_36
  · replace h := x_itp hc h
    refine x_iconst C (-1 : Int32) dX8_crying_11 (by decide) ?_
    obtain ⟨rfl, rfl⟩ := x_ret h
    exact x_iret C dX8_crying_12
abbrev rm_X8_next : Room := { frames := 6, cells := 0, slots := 0, locals := 147 }
set_option maxHeartbeats 4000000 in
set_option maxRecDepth 100000 in
theorem w_X8_next_119 {r : Int32} {τ : x_Hp} (C : x_C p s m args meth c cX8_next 4 (some .int) yX8_next.cls TX G) {k54 : Int32 → Int32 → Int32 → x_Hp → Option (Int32 × x_Hp)} (hk54 : ∀ (x1 : Int32) (x2 : Int32) (x3 : Int32) (σ : x_Hp) (h : k54 x1 x2 x3 σ = some (r, τ)), x_W p l e rm_X8_next s m args below meth c (MQ below (x_Q TX G (some (.int r)) τ) args s 0 0 (x_A TX G)) TX G 4 54 [(0, .ref (x_ad G 0)), (1, .int x1), (2, .int x2), (3, .int x3)] [] σ) (x1 : Int32) (x2 : Int32) (x3 : Int32) (σ : x_Hp) (h : F_X8_next_119 k54 x1 x2 x3 σ = some (r, τ)) : x_W p l e rm_X8_next s m args below meth c (MQ below (x_Q TX G (some (.int r)) τ) args s 0 0 (x_A TX G)) TX G 4 119 [(0, .ref (x_ad G 0)), (1, .int x1), (2, .int x2), (3, .int x3)] [] σ := by
  have hG : x_OK TX G := C.2.2.2.2.2.2.2.2.1
  rw [F_X8_next_119] at h
  refine x_iinc C 3 (x3 + (1 : Int32)) [(3, .int (x3 + (1 : Int32))), (0, .ref (x_ad G 0)), (1, .int x1), (2, .int x2)] dX8_next_119 rfl rfl (by decide) rfl ?_
  refine x_goto C 54 dX8_next_122 rfl ?_
  exact x_sub [1, 2, 3, 0] rfl (hk54 x1 x2 (x3 + (1 : Int32)) σ h)
set_option maxHeartbeats 4000000 in
set_option maxRecDepth 100000 in
theorem w_X8_next_54 {r : Int32} {τ : x_Hp} (C : x_C p s m args meth c cX8_next 4 (some .int) yX8_next.cls TX G) : ∀ (n : Nat) (x1 : Int32) (x2 : Int32) (x3 : Int32) (σ : x_Hp) (h : F_X8_next_54 n x1 x2 x3 σ = some (r, τ)), x_W p l e rm_X8_next s m args below meth c (MQ below (x_Q TX G (some (.int r)) τ) args s 0 0 (x_A TX G)) TX G 4 54 [(0, .ref (x_ad G 0)), (1, .int x1), (2, .int x2), (3, .int x3)] [] σ := by
  intro n
  induction n with
  | zero => intro x1 x2 x3 σ  h; cases h
  | succ n ih =>
    intro x1 x2 x3 σ  h
    have hG : x_OK TX G := C.2.2.2.2.2.2.2.2.1
    rw [F_X8_next_54] at h
    refine x_iload_n C 3 dX8_next_54 rfl rfl ?_
    refine x_aload_n C 0 dX8_next_55 rfl rfl ?_
    refine x_getRq C (k := 0) kX_0 (by decide) rfl x_in8 (by decide) (by decide) rfl rfl wd_543 rfX_0_0 dX8_next_56 ?_
    refine x_getI C (k := 7) kX_1 (by decide) rfl x_in6 (by decide) (by decide) rfl rfl wd_187 dX8_next_59 ?_
    refine x_icmp_ge C 125 dX8_next_62 rfl (fun hc => ?_) (fun hc => ?_)
    · replace h := x_itp hc h
      refine x_aload_n C 0 dX8_next_125 rfl rfl ?_
      refine x_getRq C (k := 9) kX_0 (by decide) rfl x_in8 (by decide) (by decide) rfl rfl wd_552 rfX_0_9 dX8_next_126 ?_
      refine x_iload_n C 2 dX8_next_129 rfl rfl ?_
      obtain ⟨v4, σ4, hc4, h⟩ := x_b_some h
      refine x_callV C (n := 1) (c_X2_pick hG kX_167 hc4) kX_167 (by decide) rfl wd_993 wd_994 wd_995 wd_110 wd_996 (by decide +kernel) rfl ⟨Nat.le_of_ble_eq_true rfl, Nat.le_of_ble_eq_true rfl⟩ ⟨rfl, rfl⟩ rfl (Nat.le_of_ble_eq_true rfl) dX8_next_130 ?_
      obtain ⟨rfl, rfl⟩ := x_ret h
      exact x_iret C dX8_next_133
    · replace h := x_itn hc h
      refine x_iload_n C 3 dX8_next_65 rfl rfl ?_
      refine x_aload_n C 0 dX8_next_66 rfl rfl ?_
      refine x_getRq C (k := 3) kX_0 (by decide) rfl x_in8 (by decide) (by decide) rfl rfl wd_546 rfX_0_3 dX8_next_67 ?_
      refine x_getI C (k := 9) kX_35 (by decide) rfl x_in5 (by decide) (by decide) rfl rfl wd_332 dX8_next_70 ?_
      refine x_icmp_eq C 119 dX8_next_73 rfl (fun hc => ?_) (fun hc => ?_)
      · replace h := x_itp hc h
        exact x_sub [0, 1, 2, 3] rfl (w_X8_next_119 C ih x1 x2 x3 σ h)
      · replace h := x_itn hc h
        refine x_aload_n C 0 dX8_next_76 rfl rfl ?_
        refine x_getRq C (k := 4) kX_0 (by decide) rfl x_in8 (by decide) (by decide) rfl rfl wd_547 rfX_0_4 dX8_next_77 ?_
        refine x_aload_n C 0 dX8_next_80 rfl rfl ?_
        refine x_getRq C (k := 3) kX_0 (by decide) rfl x_in8 (by decide) (by decide) rfl rfl wd_546 rfX_0_3 dX8_next_81 ?_
        obtain ⟨v5, σ5, hc5, h⟩ := x_b_some h
        refine x_callV C (n := 1) (c_X5_takeFrom hG kX_37 kX_35 hc5) kX_37 (by decide) rfl wd_971 wd_886 wd_887 wd_107 wd_888 (by decide +kernel) rfl ⟨Nat.le_of_ble_eq_true rfl, Nat.le_of_ble_eq_true rfl⟩ ⟨rfl, rfl⟩ rfl (Nat.le_of_ble_eq_true rfl) dX8_next_84 ?_
        refine x_aload_n C 0 dX8_next_87 rfl rfl ?_
        refine x_getRq C (k := 2) kX_0 (by decide) rfl x_in8 (by decide) (by decide) rfl rfl wd_545 rfX_0_2 dX8_next_88 ?_
        refine x_aload_n C 0 dX8_next_91 rfl rfl ?_
        refine x_getRq C (k := 4) kX_0 (by decide) rfl x_in8 (by decide) (by decide) rfl rfl wd_547 rfX_0_4 dX8_next_92 ?_
        refine x_iload_n C 3 dX8_next_95 rfl rfl ?_
        obtain ⟨v6, σ6, hc6, h⟩ := x_b_some h
        refine x_callV C (n := 2) (c_X0_giveOver hG kX_34 kX_37 hc6) kX_34 (by decide) rfl wd_929 wd_930 wd_931 wd_106 wd_932 (by decide +kernel) rfl ⟨Nat.le_of_ble_eq_true rfl, Nat.le_of_ble_eq_true rfl⟩ ⟨rfl, rfl⟩ rfl (Nat.le_of_ble_eq_true rfl) dX8_next_96 ?_
        refine x_aload_n C 0 dX8_next_99 rfl rfl ?_
        refine x_getRq C (k := 9) kX_0 (by decide) rfl x_in8 (by decide) (by decide) rfl rfl wd_552 rfX_0_9 dX8_next_100 ?_
        refine x_iload_n C 3 dX8_next_103 rfl rfl ?_
        refine x_aload_n C 0 dX8_next_104 rfl rfl ?_
        refine x_getRq C (k := 2) kX_0 (by decide) rfl x_in8 (by decide) (by decide) rfl rfl wd_545 rfX_0_2 dX8_next_105 ?_
        refine x_aload_n C 0 dX8_next_108 rfl rfl ?_
        refine x_getRq C (k := 4) kX_0 (by decide) rfl x_in8 (by decide) (by decide) rfl rfl wd_547 rfX_0_4 dX8_next_109 ?_
        refine x_iload_n C 1 dX8_next_112 rfl rfl ?_
        obtain ⟨v7, σ7, hc7, h⟩ := x_b_some h
        refine x_callV C (n := 2) (c_X0_cried hG kX_34 kX_37 hc7) kX_34 (by decide) rfl wd_972 wd_973 wd_974 wd_106 wd_975 (by decide +kernel) rfl ⟨Nat.le_of_ble_eq_true rfl, Nat.le_of_ble_eq_true rfl⟩ ⟨rfl, rfl⟩ rfl (Nat.le_of_ble_eq_true rfl) dX8_next_113 ?_
        obtain ⟨v8, σ8, hc8, h⟩ := x_b_some h
        refine x_callV C (n := 2) (c_X2_offer hG kX_167 hc8) kX_167 (by decide) rfl wd_989 wd_990 wd_991 wd_110 wd_992 (by decide +kernel) rfl ⟨Nat.le_of_ble_eq_true rfl, Nat.le_of_ble_eq_true rfl⟩ ⟨rfl, rfl⟩ rfl (Nat.le_of_ble_eq_true rfl) dX8_next_116 ?_
        exact x_sub [0, 1, 2, 3] rfl (w_X8_next_119 C ih x1 x2 x3 σ8 h)
set_option maxHeartbeats 4000000 in
set_option maxRecDepth 100000 in
theorem c_X8_next (hG : x_OK TX G) {x1 : Int32} {x2 : Int32} {σ τ : x_Hp} {r : Int32} (h : F_X8_next x1 x2 σ = some (r, τ)) : x_M l TX G yX8_next cX8_next 4 (some .int) rm_X8_next [.ref (x_ad G 0), .int x1, .int x2] σ (some (.int r)) τ := by
  refine x_M.of hG (lv := [(0, .ref (x_ad G 0)), (1, .int x1), (2, .int x2)]) (by decide) (Nat.le_of_ble_eq_true rfl) rfl (fun p e s m below meth c C => ?_)
  rw [F_X8_next] at h
  refine x_iload_n C 1 dX8_next_0 rfl rfl ?_
  refine x_iconst C (1 : Int32) dX8_next_1 (by decide) ?_
  refine x_bipush C (120 : Int32) dX8_next_2 (by decide) ?_
  obtain ⟨v1, σ1, hc1, h⟩ := x_b_some h
  refine x_callS C (n := 3) (c_X8_between hG hc1) wd_835 wd_836 wd_102 wd_837 (by decide +kernel) rfl ⟨Nat.le_of_ble_eq_true rfl, Nat.le_of_ble_eq_true rfl⟩ ⟨rfl, rfl⟩ rfl (Nat.le_of_ble_eq_true rfl) dX8_next_4 ?_
  refine x_if_eq C 19 dX8_next_7 rfl (fun hc => ?_) (fun hc => ?_)
  · replace h := x_itp hc h
    refine x_iconst C (-1 : Int32) dX8_next_19 (by decide) ?_
    obtain ⟨rfl, rfl⟩ := x_ret h
    exact x_iret C dX8_next_20
  · replace h := x_itn hc h
    refine x_iload_n C 2 dX8_next_10 rfl rfl ?_
    refine x_iconst C (0 : Int32) dX8_next_11 (by decide) ?_
    refine x_iconst C (1 : Int32) dX8_next_12 (by decide) ?_
    obtain ⟨v2, σ2, hc2, h⟩ := x_b_some h
    refine x_callS C (n := 3) (c_X8_between hG hc2) wd_835 wd_836 wd_102 wd_837 (by decide +kernel) rfl ⟨Nat.le_of_ble_eq_true rfl, Nat.le_of_ble_eq_true rfl⟩ ⟨rfl, rfl⟩ rfl (Nat.le_of_ble_eq_true rfl) dX8_next_13 ?_
    refine x_if_ne C 21 dX8_next_16 rfl (fun hc => ?_) (fun hc => ?_)
    · replace h := x_itn hc h
      refine x_aload_n C 0 dX8_next_21 rfl rfl ?_
      refine x_getRq C (k := 3) kX_0 (by decide) rfl x_in8 (by decide) (by decide) rfl rfl wd_546 rfX_0_3 dX8_next_22 ?_
      refine x_getI C (k := 13) kX_35 (by decide) rfl x_in5 (by decide) (by decide) rfl rfl wd_344 dX8_next_25 ?_
      refine x_if_gt C 42 dX8_next_28 rfl (fun hc => ?_) (fun hc => ?_)
      · replace h := x_itp hc h
        refine x_bipush C (-2 : Int32) dX8_next_42 (by decide) ?_
        obtain ⟨rfl, rfl⟩ := x_ret h
        exact x_iret C dX8_next_44
      · replace h := x_itn hc h
        refine x_aload_n C 0 dX8_next_31 rfl rfl ?_
        refine x_getRq C (k := 0) kX_0 (by decide) rfl x_in8 (by decide) (by decide) rfl rfl wd_543 rfX_0_0 dX8_next_32 ?_
        refine x_getI C (k := 7) kX_1 (by decide) rfl x_in6 (by decide) (by decide) rfl rfl wd_187 dX8_next_35 ?_
        refine x_iconst C (2 : Int32) dX8_next_38 (by decide) ?_
        refine x_icmp_ge C 45 dX8_next_39 rfl (fun hc => ?_) (fun hc => ?_)
        · replace h := x_itp hc h
          refine x_aload_n C 0 dX8_next_45 rfl rfl ?_
          refine x_getRq C (k := 9) kX_0 (by decide) rfl x_in8 (by decide) (by decide) rfl rfl wd_552 rfX_0_9 dX8_next_46 ?_
          obtain ⟨v3, σ3, hc3, h⟩ := x_b_some h
          refine x_callV C (n := 0) (c_X2_begin hG kX_167 hc3) kX_167 (by decide) rfl wd_985 wd_986 wd_987 wd_110 wd_988 (by decide +kernel) rfl ⟨Nat.le_of_ble_eq_true rfl, Nat.le_of_ble_eq_true rfl⟩ ⟨rfl, rfl⟩ rfl (Nat.le_of_ble_eq_true rfl) dX8_next_49 ?_
          refine x_iconst C (0 : Int32) dX8_next_52 (by decide) ?_
          refine x_istore_n C [(3, .int (0 : Int32)), (0, .ref (x_ad G 0)), (1, .int x1), (2, .int x2)] dX8_next_53 rfl (by decide) rfl ?_
          exact x_sub [1, 2, 3, 0] rfl (w_X8_next_54 C x_fuel x1 x2 (0 : Int32) σ3 h)
        · replace h := x_itn hc h
          refine x_bipush C (-2 : Int32) dX8_next_42 (by decide) ?_
          obtain ⟨rfl, rfl⟩ := x_ret h
          exact x_iret C dX8_next_44
    · replace h := x_itp hc h
      refine x_iconst C (-1 : Int32) dX8_next_19 (by decide) ?_
      obtain ⟨rfl, rfl⟩ := x_ret h
      exact x_iret C dX8_next_20
abbrev rm_X8_order : Room := { frames := 7, cells := 0, slots := 0, locals := 178 }
set_option maxHeartbeats 4000000 in
set_option maxRecDepth 100000 in
theorem c_X8_order (hG : x_OK TX G) {x1 : Int32} {σ τ : x_Hp} {r : Int32} (h : F_X8_order x1 σ = some (r, τ)) : x_M l TX G yX8_order cX8_order 2 (some .int) rm_X8_order [.ref (x_ad G 0), .int x1] σ (some (.int r)) τ := by
  refine x_M.of hG (lv := [(0, .ref (x_ad G 0)), (1, .int x1)]) (by decide) (Nat.le_of_ble_eq_true rfl) rfl (fun p e s m below meth c C => ?_)
  rw [F_X8_order] at h
  refine x_iload_n C 1 dX8_order_0 rfl rfl ?_
  refine x_iconst C (1 : Int32) dX8_order_1 (by decide) ?_
  refine x_bipush C (10 : Int32) dX8_order_2 (by decide) ?_
  obtain ⟨v1, σ1, hc1, h⟩ := x_b_some h
  refine x_callS C (n := 3) (c_X8_between hG hc1) wd_835 wd_836 wd_102 wd_837 (by decide +kernel) rfl ⟨Nat.le_of_ble_eq_true rfl, Nat.le_of_ble_eq_true rfl⟩ ⟨rfl, rfl⟩ rfl (Nat.le_of_ble_eq_true rfl) dX8_order_4 ?_
  refine x_if_ne C 12 dX8_order_7 rfl (fun hc => ?_) (fun hc => ?_)
  · replace h := x_itn hc h
    refine x_aload_n C 0 dX8_order_12 rfl rfl ?_
    obtain ⟨v2, σ2, hc2, h⟩ := x_b_some h
    refine x_callV C (n := 0) (c_X8_asleepOrAlone hG hc2) kX_0 (by decide) rfl wd_938 wd_940 wd_33 wd_102 wd_941 (by decide +kernel) rfl ⟨Nat.le_of_ble_eq_true rfl, Nat.le_of_ble_eq_true rfl⟩ ⟨rfl, rfl⟩ rfl (Nat.le_of_ble_eq_true rfl) dX8_order_13 ?_
    refine x_if_eq C 22 dX8_order_16 rfl (fun hc => ?_) (fun hc => ?_)
    · replace h := x_itp hc h
      refine x_aload_n C 0 dX8_order_22 rfl rfl ?_
      refine x_getRq C (k := 8) kX_0 (by decide) rfl x_in8 (by decide) (by decide) rfl rfl wd_551 rfX_0_8 dX8_order_23 ?_
      refine x_aload_n C 0 dX8_order_26 rfl rfl ?_
      refine x_getRq C (k := 3) kX_0 (by decide) rfl x_in8 (by decide) (by decide) rfl rfl wd_546 rfX_0_3 dX8_order_27 ?_
      refine x_iload_n C 1 dX8_order_30 rfl rfl ?_
      refine x_aload_n C 0 dX8_order_31 rfl rfl ?_
      refine x_getRq C (k := 5) kX_0 (by decide) rfl x_in8 (by decide) (by decide) rfl rfl wd_548 rfX_0_5 dX8_order_32 ?_
      refine x_getI C (k := 3) kX_39 (by decide) rfl x_in7 (by decide) (by decide) rfl rfl wd_423 dX8_order_35 ?_
      obtain ⟨v3, σ3, hc3, h⟩ := x_b_some h
      refine x_callV C (n := 3) (c_X3_search hG kX_35 hc3) kX_143 (by decide) rfl wd_1001 wd_1002 wd_1003 wd_109 wd_1004 (by decide +kernel) rfl ⟨Nat.le_of_ble_eq_true rfl, Nat.le_of_ble_eq_true rfl⟩ ⟨rfl, rfl⟩ rfl (Nat.le_of_ble_eq_true rfl) dX8_order_38 ?_
      refine x_aload_n C 0 dX8_order_41 rfl rfl ?_
      refine x_getRq C (k := 8) kX_0 (by decide) rfl x_in8 (by decide) (by decide) rfl rfl wd_551 rfX_0_8 dX8_order_42 ?_
      refine x_getRq C (k := 7) kX_143 (by decide) rfl x_in3 (by decide) (by decide) rfl rfl wd_471 rfX_143_7 dX8_order_45 ?_
      refine x_getI C (k := 1) kX_151 (by decide) rfl x_in2 (by decide) (by decide) rfl rfl wd_451 dX8_order_48 ?_
      obtain ⟨rfl, rfl⟩ := x_ret h
      exact x_iret C dX8_order_51
    · replace h := x_itn hc h
      refine x_bipush C (-2 : Int32) dX8_order_19 (by decide) ?_
      obtain ⟨rfl, rfl⟩ := x_ret h
      exact x_iret C dX8_order_21
  · replace h := x_itp hc h
    refine x_iconst C (-1 : Int32) dX8_order_10 (by decide) ?_
    obtain ⟨rfl, rfl⟩ := x_ret h
    exact x_iret C dX8_order_11
abbrev rm_X8_orderAt : Room := { frames := 7, cells := 0, slots := 0, locals := 178 }
set_option maxHeartbeats 4000000 in
set_option maxRecDepth 100000 in
theorem c_X8_orderAt (hG : x_OK TX G) {x1 : Int32} {x2 : Int32} {σ τ : x_Hp} {r : Int32} (h : F_X8_orderAt x1 x2 σ = some (r, τ)) : x_M l TX G yX8_orderAt cX8_orderAt 3 (some .int) rm_X8_orderAt [.ref (x_ad G 0), .int x1, .int x2] σ (some (.int r)) τ := by
  refine x_M.of hG (lv := [(0, .ref (x_ad G 0)), (1, .int x1), (2, .int x2)]) (by decide) (Nat.le_of_ble_eq_true rfl) rfl (fun p e s m below meth c C => ?_)
  rw [F_X8_orderAt] at h
  refine x_iload_n C 1 dX8_orderAt_0 rfl rfl ?_
  refine x_iconst C (1 : Int32) dX8_orderAt_1 (by decide) ?_
  refine x_bipush C (10 : Int32) dX8_orderAt_2 (by decide) ?_
  obtain ⟨v1, σ1, hc1, h⟩ := x_b_some h
  refine x_callS C (n := 3) (c_X8_between hG hc1) wd_835 wd_836 wd_102 wd_837 (by decide +kernel) rfl ⟨Nat.le_of_ble_eq_true rfl, Nat.le_of_ble_eq_true rfl⟩ ⟨rfl, rfl⟩ rfl (Nat.le_of_ble_eq_true rfl) dX8_orderAt_4 ?_
  refine x_if_eq C 14 dX8_orderAt_7 rfl (fun hc => ?_) (fun hc => ?_)
  · replace h := x_itp hc h
    refine x_iconst C (-1 : Int32) dX8_orderAt_14 (by decide) ?_
    obtain ⟨rfl, rfl⟩ := x_ret h
    exact x_iret C dX8_orderAt_15
  · replace h := x_itn hc h
    refine x_iload_n C 2 dX8_orderAt_10 rfl rfl ?_
    refine x_if_ge C 16 dX8_orderAt_11 rfl (fun hc => ?_) (fun hc => ?_)
    · replace h := x_itp hc h
      refine x_aload_n C 0 dX8_orderAt_16 rfl rfl ?_
      obtain ⟨v2, σ2, hc2, h⟩ := x_b_some h
      refine x_callV C (n := 0) (c_X8_asleepOrAlone hG hc2) kX_0 (by decide) rfl wd_938 wd_940 wd_33 wd_102 wd_941 (by decide +kernel) rfl ⟨Nat.le_of_ble_eq_true rfl, Nat.le_of_ble_eq_true rfl⟩ ⟨rfl, rfl⟩ rfl (Nat.le_of_ble_eq_true rfl) dX8_orderAt_17 ?_
      refine x_if_eq C 26 dX8_orderAt_20 rfl (fun hc => ?_) (fun hc => ?_)
      · replace h := x_itp hc h
        refine x_iload_n C 2 dX8_orderAt_26 rfl rfl ?_
        refine x_aload_n C 0 dX8_orderAt_27 rfl rfl ?_
        refine x_getRq C (k := 0) kX_0 (by decide) rfl x_in8 (by decide) (by decide) rfl rfl wd_543 rfX_0_0 dX8_orderAt_28 ?_
        refine x_getI C (k := 7) kX_1 (by decide) rfl x_in6 (by decide) (by decide) rfl rfl wd_187 dX8_orderAt_31 ?_
        refine x_icmp_lt C 39 dX8_orderAt_34 rfl (fun hc => ?_) (fun hc => ?_)
        · replace h := x_itp hc h
          refine x_aload_n C 0 dX8_orderAt_39 rfl rfl ?_
          refine x_getRq C (k := 8) kX_0 (by decide) rfl x_in8 (by decide) (by decide) rfl rfl wd_551 rfX_0_8 dX8_orderAt_40 ?_
          refine x_aload_n C 0 dX8_orderAt_43 rfl rfl ?_
          refine x_getRq C (k := 3) kX_0 (by decide) rfl x_in8 (by decide) (by decide) rfl rfl wd_546 rfX_0_3 dX8_orderAt_44 ?_
          refine x_iload_n C 1 dX8_orderAt_47 rfl rfl ?_
          refine x_aload_n C 0 dX8_orderAt_48 rfl rfl ?_
          refine x_getRq C (k := 5) kX_0 (by decide) rfl x_in8 (by decide) (by decide) rfl rfl wd_548 rfX_0_5 dX8_orderAt_49 ?_
          refine x_getI C (k := 3) kX_39 (by decide) rfl x_in7 (by decide) (by decide) rfl rfl wd_423 dX8_orderAt_52 ?_
          obtain ⟨v3, σ3, hc3, h⟩ := x_b_some h
          refine x_callV C (n := 3) (c_X3_search hG kX_35 hc3) kX_143 (by decide) rfl wd_1001 wd_1002 wd_1003 wd_109 wd_1004 (by decide +kernel) rfl ⟨Nat.le_of_ble_eq_true rfl, Nat.le_of_ble_eq_true rfl⟩ ⟨rfl, rfl⟩ rfl (Nat.le_of_ble_eq_true rfl) dX8_orderAt_55 ?_
          refine x_aload_n C 0 dX8_orderAt_58 rfl rfl ?_
          refine x_getRq C (k := 8) kX_0 (by decide) rfl x_in8 (by decide) (by decide) rfl rfl wd_551 rfX_0_8 dX8_orderAt_59 ?_
          refine x_getRq C (k := 5) kX_143 (by decide) rfl x_in3 (by decide) (by decide) rfl rfl wd_467 rfX_143_5 dX8_orderAt_62 ?_
          refine x_iload_n C 2 dX8_orderAt_65 rfl rfl ?_
          obtain ⟨v4, σ4, hc4, h⟩ := x_b_some h
          refine x_callS C (n := 2) (c_X8_at hG kX_149 hc4) wd_838 wd_541 wd_102 wd_542 (by decide +kernel) rfl ⟨Nat.le_of_ble_eq_true rfl, Nat.le_of_ble_eq_true rfl⟩ ⟨rfl, rfl⟩ rfl (Nat.le_of_ble_eq_true rfl) dX8_orderAt_66 ?_
          obtain ⟨rfl, rfl⟩ := x_ret h
          exact x_iret C dX8_orderAt_69
        · replace h := x_itn hc h
          refine x_iconst C (-1 : Int32) dX8_orderAt_37 (by decide) ?_
          obtain ⟨rfl, rfl⟩ := x_ret h
          exact x_iret C dX8_orderAt_38
      · replace h := x_itn hc h
        refine x_bipush C (-2 : Int32) dX8_orderAt_23 (by decide) ?_
        obtain ⟨rfl, rfl⟩ := x_ret h
        exact x_iret C dX8_orderAt_25
    · replace h := x_itn hc h
      refine x_iconst C (-1 : Int32) dX8_orderAt_14 (by decide) ?_
      obtain ⟨rfl, rfl⟩ := x_ret h
      exact x_iret C dX8_orderAt_15
abbrev rm_X8_sitters : Room := { frames := 7, cells := 0, slots := 0, locals := 178 }
set_option maxHeartbeats 4000000 in
set_option maxRecDepth 100000 in
theorem c_X8_sitters (hG : x_OK TX G) {x1 : Int32} {σ τ : x_Hp} {r : Int32} (h : F_X8_sitters x1 σ = some (r, τ)) : x_M l TX G yX8_sitters cX8_sitters 2 (some .int) rm_X8_sitters [.ref (x_ad G 0), .int x1] σ (some (.int r)) τ := by
  refine x_M.of hG (lv := [(0, .ref (x_ad G 0)), (1, .int x1)]) (by decide) (Nat.le_of_ble_eq_true rfl) rfl (fun p e s m below meth c C => ?_)
  rw [F_X8_sitters] at h
  refine x_iload_n C 1 dX8_sitters_0 rfl rfl ?_
  refine x_iconst C (1 : Int32) dX8_sitters_1 (by decide) ?_
  refine x_bipush C (10 : Int32) dX8_sitters_2 (by decide) ?_
  obtain ⟨v1, σ1, hc1, h⟩ := x_b_some h
  refine x_callS C (n := 3) (c_X8_between hG hc1) wd_835 wd_836 wd_102 wd_837 (by decide +kernel) rfl ⟨Nat.le_of_ble_eq_true rfl, Nat.le_of_ble_eq_true rfl⟩ ⟨rfl, rfl⟩ rfl (Nat.le_of_ble_eq_true rfl) dX8_sitters_4 ?_
  refine x_if_ne C 12 dX8_sitters_7 rfl (fun hc => ?_) (fun hc => ?_)
  · replace h := x_itn hc h
    refine x_aload_n C 0 dX8_sitters_12 rfl rfl ?_
    obtain ⟨v2, σ2, hc2, h⟩ := x_b_some h
    refine x_callV C (n := 0) (c_X8_asleepOrAlone hG hc2) kX_0 (by decide) rfl wd_938 wd_940 wd_33 wd_102 wd_941 (by decide +kernel) rfl ⟨Nat.le_of_ble_eq_true rfl, Nat.le_of_ble_eq_true rfl⟩ ⟨rfl, rfl⟩ rfl (Nat.le_of_ble_eq_true rfl) dX8_sitters_13 ?_
    refine x_if_eq C 22 dX8_sitters_16 rfl (fun hc => ?_) (fun hc => ?_)
    · replace h := x_itp hc h
      refine x_aload_n C 0 dX8_sitters_22 rfl rfl ?_
      refine x_getRq C (k := 8) kX_0 (by decide) rfl x_in8 (by decide) (by decide) rfl rfl wd_551 rfX_0_8 dX8_sitters_23 ?_
      refine x_aload_n C 0 dX8_sitters_26 rfl rfl ?_
      refine x_getRq C (k := 3) kX_0 (by decide) rfl x_in8 (by decide) (by decide) rfl rfl wd_546 rfX_0_3 dX8_sitters_27 ?_
      refine x_iload_n C 1 dX8_sitters_30 rfl rfl ?_
      refine x_aload_n C 0 dX8_sitters_31 rfl rfl ?_
      refine x_getRq C (k := 5) kX_0 (by decide) rfl x_in8 (by decide) (by decide) rfl rfl wd_548 rfX_0_5 dX8_sitters_32 ?_
      refine x_getI C (k := 3) kX_39 (by decide) rfl x_in7 (by decide) (by decide) rfl rfl wd_423 dX8_sitters_35 ?_
      obtain ⟨v3, σ3, hc3, h⟩ := x_b_some h
      refine x_callV C (n := 3) (c_X3_search hG kX_35 hc3) kX_143 (by decide) rfl wd_1001 wd_1002 wd_1003 wd_109 wd_1004 (by decide +kernel) rfl ⟨Nat.le_of_ble_eq_true rfl, Nat.le_of_ble_eq_true rfl⟩ ⟨rfl, rfl⟩ rfl (Nat.le_of_ble_eq_true rfl) dX8_sitters_38 ?_
      refine x_aload_n C 0 dX8_sitters_41 rfl rfl ?_
      refine x_getRq C (k := 8) kX_0 (by decide) rfl x_in8 (by decide) (by decide) rfl rfl wd_551 rfX_0_8 dX8_sitters_42 ?_
      refine x_getI C (k := 9) kX_143 (by decide) rfl x_in3 (by decide) (by decide) rfl rfl wd_475 dX8_sitters_45 ?_
      obtain ⟨rfl, rfl⟩ := x_ret h
      exact x_iret C dX8_sitters_48
    · replace h := x_itn hc h
      refine x_bipush C (-2 : Int32) dX8_sitters_19 (by decide) ?_
      obtain ⟨rfl, rfl⟩ := x_ret h
      exact x_iret C dX8_sitters_21
  · replace h := x_itp hc h
    refine x_iconst C (-1 : Int32) dX8_sitters_10 (by decide) ?_
    obtain ⟨rfl, rfl⟩ := x_ret h
    exact x_iret C dX8_sitters_11
abbrev rm_X8_luck : Room := { frames := 7, cells := 0, slots := 0, locals := 178 }
set_option maxHeartbeats 4000000 in
set_option maxRecDepth 100000 in
theorem c_X8_luck (hG : x_OK TX G) {x1 : Int32} {x2 : Int32} {σ τ : x_Hp} {r : Int32} (h : F_X8_luck x1 x2 σ = some (r, τ)) : x_M l TX G yX8_luck cX8_luck 3 (some .int) rm_X8_luck [.ref (x_ad G 0), .int x1, .int x2] σ (some (.int r)) τ := by
  refine x_M.of hG (lv := [(0, .ref (x_ad G 0)), (1, .int x1), (2, .int x2)]) (by decide) (Nat.le_of_ble_eq_true rfl) rfl (fun p e s m below meth c C => ?_)
  rw [F_X8_luck] at h
  refine x_aload_n C 0 dX8_luck_0 rfl rfl ?_
  refine x_iload_n C 1 dX8_luck_1 rfl rfl ?_
  obtain ⟨v1, σ1, hc1, h⟩ := x_b_some h
  refine x_callV C (n := 1) (c_X8_isAunt hG hc1) kX_0 (by decide) rfl wd_831 wd_833 wd_27 wd_102 wd_834 (by decide +kernel) rfl ⟨Nat.le_of_ble_eq_true rfl, Nat.le_of_ble_eq_true rfl⟩ ⟨rfl, rfl⟩ rfl (Nat.le_of_ble_eq_true rfl) dX8_luck_2 ?_
  refine x_if_eq C 18 dX8_luck_5 rfl (fun hc => ?_) (fun hc => ?_)
  · replace h := x_itp hc h
    refine x_iconst C (-1 : Int32) dX8_luck_18 (by decide) ?_
    obtain ⟨rfl, rfl⟩ := x_ret h
    exact x_iret C dX8_luck_19
  · replace h := x_itn hc h
    refine x_iload_n C 2 dX8_luck_8 rfl rfl ?_
    refine x_iconst C (1 : Int32) dX8_luck_9 (by decide) ?_
    refine x_bipush C (10 : Int32) dX8_luck_10 (by decide) ?_
    obtain ⟨v2, σ2, hc2, h⟩ := x_b_some h
    refine x_callS C (n := 3) (c_X8_between hG hc2) wd_835 wd_836 wd_102 wd_837 (by decide +kernel) rfl ⟨Nat.le_of_ble_eq_true rfl, Nat.le_of_ble_eq_true rfl⟩ ⟨rfl, rfl⟩ rfl (Nat.le_of_ble_eq_true rfl) dX8_luck_12 ?_
    refine x_if_ne C 20 dX8_luck_15 rfl (fun hc => ?_) (fun hc => ?_)
    · replace h := x_itn hc h
      refine x_aload_n C 0 dX8_luck_20 rfl rfl ?_
      obtain ⟨v3, σ3, hc3, h⟩ := x_b_some h
      refine x_callV C (n := 0) (c_X8_asleepOrAlone hG hc3) kX_0 (by decide) rfl wd_938 wd_940 wd_33 wd_102 wd_941 (by decide +kernel) rfl ⟨Nat.le_of_ble_eq_true rfl, Nat.le_of_ble_eq_true rfl⟩ ⟨rfl, rfl⟩ rfl (Nat.le_of_ble_eq_true rfl) dX8_luck_21 ?_
      refine x_if_eq C 30 dX8_luck_24 rfl (fun hc => ?_) (fun hc => ?_)
      · replace h := x_itp hc h
        refine x_aload_n C 0 dX8_luck_30 rfl rfl ?_
        refine x_getRq C (k := 8) kX_0 (by decide) rfl x_in8 (by decide) (by decide) rfl rfl wd_551 rfX_0_8 dX8_luck_31 ?_
        refine x_aload_n C 0 dX8_luck_34 rfl rfl ?_
        refine x_getRq C (k := 3) kX_0 (by decide) rfl x_in8 (by decide) (by decide) rfl rfl wd_546 rfX_0_3 dX8_luck_35 ?_
        refine x_iload_n C 2 dX8_luck_38 rfl rfl ?_
        refine x_aload_n C 0 dX8_luck_39 rfl rfl ?_
        refine x_getRq C (k := 5) kX_0 (by decide) rfl x_in8 (by decide) (by decide) rfl rfl wd_548 rfX_0_5 dX8_luck_40 ?_
        refine x_getI C (k := 3) kX_39 (by decide) rfl x_in7 (by decide) (by decide) rfl rfl wd_423 dX8_luck_43 ?_
        obtain ⟨v4, σ4, hc4, h⟩ := x_b_some h
        refine x_callV C (n := 3) (c_X3_search hG kX_35 hc4) kX_143 (by decide) rfl wd_1001 wd_1002 wd_1003 wd_109 wd_1004 (by decide +kernel) rfl ⟨Nat.le_of_ble_eq_true rfl, Nat.le_of_ble_eq_true rfl⟩ ⟨rfl, rfl⟩ rfl (Nat.le_of_ble_eq_true rfl) dX8_luck_46 ?_
        refine x_aload_n C 0 dX8_luck_49 rfl rfl ?_
        refine x_getRq C (k := 8) kX_0 (by decide) rfl x_in8 (by decide) (by decide) rfl rfl wd_551 rfX_0_8 dX8_luck_50 ?_
        refine x_getRq C (k := 6) kX_143 (by decide) rfl x_in3 (by decide) (by decide) rfl rfl wd_469 rfX_143_6 dX8_luck_53 ?_
        refine x_iload_n C 1 dX8_luck_56 rfl rfl ?_
        obtain ⟨v5, σ5, hc5, h⟩ := x_b_some h
        refine x_callS C (n := 2) (c_X8_at hG kX_150 hc5) wd_838 wd_541 wd_102 wd_542 (by decide +kernel) rfl ⟨Nat.le_of_ble_eq_true rfl, Nat.le_of_ble_eq_true rfl⟩ ⟨rfl, rfl⟩ rfl (Nat.le_of_ble_eq_true rfl) dX8_luck_57 ?_
        obtain ⟨rfl, rfl⟩ := x_ret h
        exact x_iret C dX8_luck_60
      · replace h := x_itn hc h
        refine x_bipush C (-2 : Int32) dX8_luck_27 (by decide) ?_
        obtain ⟨rfl, rfl⟩ := x_ret h
        exact x_iret C dX8_luck_29
    · replace h := x_itp hc h
      refine x_iconst C (-1 : Int32) dX8_luck_18 (by decide) ?_
      obtain ⟨rfl, rfl⟩ := x_ret h
      exact x_iret C dX8_luck_19
abbrev rm_X8_grant : Room := { frames := 3, cells := 0, slots := 0, locals := 65 }
set_option maxHeartbeats 4000000 in
set_option maxRecDepth 100000 in
theorem c_X8_grant (hG : x_OK TX G) {x1 : Int32} {σ τ : x_Hp} (h : F_X8_grant x1 σ = some ((), τ)) : x_M l TX G yX8_grant cX8_grant 2 none rm_X8_grant [.ref (x_ad G 0), .int x1] σ none τ := by
  refine x_M.of hG (lv := [(0, .ref (x_ad G 0)), (1, .int x1)]) (by decide) (Nat.le_of_ble_eq_true rfl) rfl (fun p e s m below meth c C => ?_)
  rw [F_X8_grant] at h
  refine x_iload_n C 1 dX8_grant_0 rfl rfl ?_
  refine x_iconst C (1 : Int32) dX8_grant_1 (by decide) ?_
  refine x_icmp_ne C 19 dX8_grant_2 rfl (fun hc => ?_) (fun hc => ?_)
  · replace h := x_itn hc h
    refine x_iload_n C 1 dX8_grant_19 rfl rfl ?_
    refine x_iconst C (2 : Int32) dX8_grant_20 (by decide) ?_
    refine x_icmp_ne C 38 dX8_grant_21 rfl (fun hc => ?_) (fun hc => ?_)
    · replace h := x_itn hc h
      refine x_iload_n C 1 dX8_grant_38 rfl rfl ?_
      refine x_iconst C (3 : Int32) dX8_grant_39 (by decide) ?_
      refine x_icmp_ne C 62 dX8_grant_40 rfl (fun hc => ?_) (fun hc => ?_)
      · replace h := x_itn hc h
        refine x_iload_n C 1 dX8_grant_62 rfl rfl ?_
        refine x_iconst C (4 : Int32) dX8_grant_63 (by decide) ?_
        refine x_icmp_lt C 81 dX8_grant_64 rfl (fun hc => ?_) (fun hc => ?_)
        · replace h := x_itp hc h
          obtain ⟨-, rfl⟩ := x_ret h
          exact x_vret C dX8_grant_81
        · replace h := x_itn hc h
          refine x_aload_n C 0 dX8_grant_67 rfl rfl ?_
          refine x_getRq C (k := 2) kX_0 (by decide) rfl x_in8 (by decide) (by decide) rfl rfl wd_545 rfX_0_2 dX8_grant_68 ?_
          refine x_aload_n C 0 dX8_grant_71 rfl rfl ?_
          refine x_getRq C (k := 4) kX_0 (by decide) rfl x_in8 (by decide) (by decide) rfl rfl wd_547 rfX_0_4 dX8_grant_72 ?_
          refine x_iload_n C 1 dX8_grant_75 rfl rfl ?_
          refine x_iconst C (4 : Int32) dX8_grant_76 (by decide) ?_
          refine x_isub C dX8_grant_77 ?_
          obtain ⟨v1, σ1, hc1, h⟩ := x_b_some h
          refine x_callV C (n := 2) (c_X0_giveOver hG kX_34 kX_37 hc1) kX_34 (by decide) rfl wd_929 wd_930 wd_931 wd_106 wd_932 (by decide +kernel) rfl ⟨Nat.le_of_ble_eq_true rfl, Nat.le_of_ble_eq_true rfl⟩ ⟨rfl, rfl⟩ rfl (Nat.le_of_ble_eq_true rfl) dX8_grant_78 ?_
          obtain ⟨-, rfl⟩ := x_ret h
          exact x_vret C dX8_grant_81
      · replace h := x_itp hc h
        refine x_aload_n C 0 dX8_grant_43 rfl rfl ?_
        refine x_getRq C (k := 4) kX_0 (by decide) rfl x_in8 (by decide) (by decide) rfl rfl wd_547 rfX_0_4 dX8_grant_44 ?_
        refine x_iconst C (1 : Int32) dX8_grant_47 (by decide) ?_
        refine x_aload_n C 0 dX8_grant_48 rfl rfl ?_
        refine x_getRq C (k := 4) kX_0 (by decide) rfl x_in8 (by decide) (by decide) rfl rfl wd_547 rfX_0_4 dX8_grant_49 ?_
        refine x_getI C (k := 8) kX_37 (by decide) rfl x_in5 (by decide) (by decide) rfl rfl wd_329 dX8_grant_52 ?_
        refine x_isub C dX8_grant_55 ?_
        refine x_putI C (k := 8) tyX5 kX_37 (by decide) rfl x_in5 tyX5_ok nmX5 (by decide) (by decide) rfl rfl wd_329 rfl (tyX5_ok 8 (by decide)) rfl rfl dX8_grant_56 (x_gen h fun σ2 h => ?_)
        refine x_goto C 81 dX8_grant_59 rfl ?_
        obtain ⟨-, rfl⟩ := x_ret h
        exact x_vret C dX8_grant_81
    · replace h := x_itp hc h
      refine x_aload_n C 0 dX8_grant_24 rfl rfl ?_
      refine x_getRq C (k := 2) kX_0 (by decide) rfl x_in8 (by decide) (by decide) rfl rfl wd_545 rfX_0_2 dX8_grant_25 ?_
      refine x_aload_n C 0 dX8_grant_28 rfl rfl ?_
      refine x_getRq C (k := 4) kX_0 (by decide) rfl x_in8 (by decide) (by decide) rfl rfl wd_547 rfX_0_4 dX8_grant_29 ?_
      obtain ⟨v3, σ3, hc3, h⟩ := x_b_some h
      refine x_callV C (n := 1) (c_X0_fallAsleep hG kX_34 kX_37 hc3) kX_34 (by decide) rfl wd_950 wd_922 wd_923 wd_106 wd_924 (by decide +kernel) rfl ⟨Nat.le_of_ble_eq_true rfl, Nat.le_of_ble_eq_true rfl⟩ ⟨rfl, rfl⟩ rfl (Nat.le_of_ble_eq_true rfl) dX8_grant_32 ?_
      refine x_goto C 81 dX8_grant_35 rfl ?_
      obtain ⟨-, rfl⟩ := x_ret h
      exact x_vret C dX8_grant_81
  · replace h := x_itp hc h
    refine x_aload_n C 0 dX8_grant_5 rfl rfl ?_
    refine x_getRq C (k := 2) kX_0 (by decide) rfl x_in8 (by decide) (by decide) rfl rfl wd_545 rfX_0_2 dX8_grant_6 ?_
    refine x_aload_n C 0 dX8_grant_9 rfl rfl ?_
    refine x_getRq C (k := 4) kX_0 (by decide) rfl x_in8 (by decide) (by decide) rfl rfl wd_547 rfX_0_4 dX8_grant_10 ?_
    obtain ⟨v4, σ4, hc4, h⟩ := x_b_some h
    refine x_callV C (n := 1) (c_X0_feedNow hG kX_34 kX_37 hc4) kX_34 (by decide) rfl wd_942 wd_943 wd_944 wd_106 wd_945 (by decide +kernel) rfl ⟨Nat.le_of_ble_eq_true rfl, Nat.le_of_ble_eq_true rfl⟩ ⟨rfl, rfl⟩ rfl (Nat.le_of_ble_eq_true rfl) dX8_grant_13 ?_
    refine x_goto C 81 dX8_grant_16 rfl ?_
    obtain ⟨-, rfl⟩ := x_ret h
    exact x_vret C dX8_grant_81
abbrev rm_X8_wants : Room := { frames := 6, cells := 0, slots := 0, locals := 147 }
set_option maxHeartbeats 4000000 in
set_option maxRecDepth 100000 in
theorem w_X8_wants_102 {r : Int32} {τ : x_Hp} (C : x_C p s m args meth c cX8_wants 4 (some .int) yX8_wants.cls TX G) {k40 : Int32 → Int32 → Int32 → x_Hp → Option (Int32 × x_Hp)} (hk40 : ∀ (x1 : Int32) (x2 : Int32) (x3 : Int32) (σ : x_Hp) (h : k40 x1 x2 x3 σ = some (r, τ)), x_W p l e rm_X8_wants s m args below meth c (MQ below (x_Q TX G (some (.int r)) τ) args s 0 0 (x_A TX G)) TX G 4 40 [(0, .ref (x_ad G 0)), (1, .int x1), (2, .int x2), (3, .int x3)] [] σ) (x1 : Int32) (x2 : Int32) (x3 : Int32) (σ : x_Hp) (h : F_X8_wants_102 k40 x1 x2 x3 σ = some (r, τ)) : x_W p l e rm_X8_wants s m args below meth c (MQ below (x_Q TX G (some (.int r)) τ) args s 0 0 (x_A TX G)) TX G 4 102 [(0, .ref (x_ad G 0)), (1, .int x1), (2, .int x2), (3, .int x3)] [] σ := by
  have hG : x_OK TX G := C.2.2.2.2.2.2.2.2.1
  rw [F_X8_wants_102] at h
  refine x_iinc C 3 (x3 + (1 : Int32)) [(3, .int (x3 + (1 : Int32))), (0, .ref (x_ad G 0)), (1, .int x1), (2, .int x2)] dX8_wants_102 rfl rfl (by decide) rfl ?_
  refine x_goto C 40 dX8_wants_105 rfl ?_
  exact x_sub [1, 2, 3, 0] rfl (hk40 x1 x2 (x3 + (1 : Int32)) σ h)
set_option maxHeartbeats 4000000 in
set_option maxRecDepth 100000 in
theorem w_X8_wants_40 {r : Int32} {τ : x_Hp} (C : x_C p s m args meth c cX8_wants 4 (some .int) yX8_wants.cls TX G) : ∀ (n : Nat) (x1 : Int32) (x2 : Int32) (x3 : Int32) (σ : x_Hp) (h : F_X8_wants_40 n x1 x2 x3 σ = some (r, τ)), x_W p l e rm_X8_wants s m args below meth c (MQ below (x_Q TX G (some (.int r)) τ) args s 0 0 (x_A TX G)) TX G 4 40 [(0, .ref (x_ad G 0)), (1, .int x1), (2, .int x2), (3, .int x3)] [] σ := by
  intro n
  induction n with
  | zero => intro x1 x2 x3 σ  h; cases h
  | succ n ih =>
    intro x1 x2 x3 σ  h
    have hG : x_OK TX G := C.2.2.2.2.2.2.2.2.1
    rw [F_X8_wants_40] at h
    refine x_iload_n C 3 dX8_wants_40 rfl rfl ?_
    refine x_iconst C (4 : Int32) dX8_wants_41 (by decide) ?_
    refine x_aload_n C 0 dX8_wants_42 rfl rfl ?_
    refine x_getRq C (k := 0) kX_0 (by decide) rfl x_in8 (by decide) (by decide) rfl rfl wd_543 rfX_0_0 dX8_wants_43 ?_
    refine x_getI C (k := 7) kX_1 (by decide) rfl x_in6 (by decide) (by decide) rfl rfl wd_187 dX8_wants_46 ?_
    refine x_iadd C dX8_wants_49 ?_
    refine x_icmp_ge C 108 dX8_wants_50 rfl (fun hc => ?_) (fun hc => ?_)
    · replace h := x_itp hc h
      refine x_aload_n C 0 dX8_wants_108 rfl rfl ?_
      refine x_getRq C (k := 9) kX_0 (by decide) rfl x_in8 (by decide) (by decide) rfl rfl wd_552 rfX_0_9 dX8_wants_109 ?_
      refine x_iload_n C 2 dX8_wants_112 rfl rfl ?_
      obtain ⟨v5, σ5, hc5, h⟩ := x_b_some h
      refine x_callV C (n := 1) (c_X2_pick hG kX_167 hc5) kX_167 (by decide) rfl wd_993 wd_994 wd_995 wd_110 wd_996 (by decide +kernel) rfl ⟨Nat.le_of_ble_eq_true rfl, Nat.le_of_ble_eq_true rfl⟩ ⟨rfl, rfl⟩ rfl (Nat.le_of_ble_eq_true rfl) dX8_wants_113 ?_
      obtain ⟨rfl, rfl⟩ := x_ret h
      exact x_iret C dX8_wants_116
    · replace h := x_itn hc h
      refine x_iload_n C 3 dX8_wants_53 rfl rfl ?_
      refine x_iconst C (4 : Int32) dX8_wants_54 (by decide) ?_
      refine x_isub C dX8_wants_55 ?_
      refine x_aload_n C 0 dX8_wants_56 rfl rfl ?_
      refine x_getRq C (k := 3) kX_0 (by decide) rfl x_in8 (by decide) (by decide) rfl rfl wd_546 rfX_0_3 dX8_wants_57 ?_
      refine x_getI C (k := 9) kX_35 (by decide) rfl x_in5 (by decide) (by decide) rfl rfl wd_332 dX8_wants_60 ?_
      refine x_icmp_eq C 102 dX8_wants_63 rfl (fun hc => ?_) (fun hc => ?_)
      · replace h := x_itp hc h
        exact x_sub [0, 1, 2, 3] rfl (w_X8_wants_102 C ih x1 x2 x3 σ h)
      · replace h := x_itn hc h
        refine x_aload_n C 0 dX8_wants_66 rfl rfl ?_
        refine x_getRq C (k := 4) kX_0 (by decide) rfl x_in8 (by decide) (by decide) rfl rfl wd_547 rfX_0_4 dX8_wants_67 ?_
        refine x_aload_n C 0 dX8_wants_70 rfl rfl ?_
        refine x_getRq C (k := 3) kX_0 (by decide) rfl x_in8 (by decide) (by decide) rfl rfl wd_546 rfX_0_3 dX8_wants_71 ?_
        obtain ⟨v6, σ6, hc6, h⟩ := x_b_some h
        refine x_callV C (n := 1) (c_X5_takeFrom hG kX_37 kX_35 hc6) kX_37 (by decide) rfl wd_971 wd_886 wd_887 wd_107 wd_888 (by decide +kernel) rfl ⟨Nat.le_of_ble_eq_true rfl, Nat.le_of_ble_eq_true rfl⟩ ⟨rfl, rfl⟩ rfl (Nat.le_of_ble_eq_true rfl) dX8_wants_74 ?_
        refine x_aload_n C 0 dX8_wants_77 rfl rfl ?_
        refine x_iload_n C 3 dX8_wants_78 rfl rfl ?_
        obtain ⟨v7, σ7, hc7, h⟩ := x_b_some h
        refine x_callV C (n := 1) (c_X8_grant hG hc7) kX_0 (by decide) rfl wd_1059 wd_1061 wd_40 wd_102 wd_1062 (by decide +kernel) rfl ⟨Nat.le_of_ble_eq_true rfl, Nat.le_of_ble_eq_true rfl⟩ ⟨rfl, rfl⟩ rfl (Nat.le_of_ble_eq_true rfl) dX8_wants_79 ?_
        refine x_aload_n C 0 dX8_wants_82 rfl rfl ?_
        refine x_getRq C (k := 9) kX_0 (by decide) rfl x_in8 (by decide) (by decide) rfl rfl wd_552 rfX_0_9 dX8_wants_83 ?_
        refine x_iload_n C 3 dX8_wants_86 rfl rfl ?_
        refine x_aload_n C 0 dX8_wants_87 rfl rfl ?_
        refine x_getRq C (k := 2) kX_0 (by decide) rfl x_in8 (by decide) (by decide) rfl rfl wd_545 rfX_0_2 dX8_wants_88 ?_
        refine x_aload_n C 0 dX8_wants_91 rfl rfl ?_
        refine x_getRq C (k := 4) kX_0 (by decide) rfl x_in8 (by decide) (by decide) rfl rfl wd_547 rfX_0_4 dX8_wants_92 ?_
        refine x_iload_n C 1 dX8_wants_95 rfl rfl ?_
        obtain ⟨v8, σ8, hc8, h⟩ := x_b_some h
        refine x_callV C (n := 2) (c_X0_cried hG kX_34 kX_37 hc8) kX_34 (by decide) rfl wd_972 wd_973 wd_974 wd_106 wd_975 (by decide +kernel) rfl ⟨Nat.le_of_ble_eq_true rfl, Nat.le_of_ble_eq_true rfl⟩ ⟨rfl, rfl⟩ rfl (Nat.le_of_ble_eq_true rfl) dX8_wants_96 ?_
        obtain ⟨v9, σ9, hc9, h⟩ := x_b_some h
        refine x_callV C (n := 2) (c_X2_offer hG kX_167 hc9) kX_167 (by decide) rfl wd_989 wd_990 wd_991 wd_110 wd_992 (by decide +kernel) rfl ⟨Nat.le_of_ble_eq_true rfl, Nat.le_of_ble_eq_true rfl⟩ ⟨rfl, rfl⟩ rfl (Nat.le_of_ble_eq_true rfl) dX8_wants_99 ?_
        exact x_sub [0, 1, 2, 3] rfl (w_X8_wants_102 C ih x1 x2 x3 σ9 h)
set_option maxHeartbeats 4000000 in
set_option maxRecDepth 100000 in
theorem c_X8_wants (hG : x_OK TX G) {x1 : Int32} {x2 : Int32} {σ τ : x_Hp} {r : Int32} (h : F_X8_wants x1 x2 σ = some (r, τ)) : x_M l TX G yX8_wants cX8_wants 4 (some .int) rm_X8_wants [.ref (x_ad G 0), .int x1, .int x2] σ (some (.int r)) τ := by
  refine x_M.of hG (lv := [(0, .ref (x_ad G 0)), (1, .int x1), (2, .int x2)]) (by decide) (Nat.le_of_ble_eq_true rfl) rfl (fun p e s m below meth c C => ?_)
  rw [F_X8_wants] at h
  refine x_iload_n C 1 dX8_wants_0 rfl rfl ?_
  refine x_iconst C (1 : Int32) dX8_wants_1 (by decide) ?_
  refine x_bipush C (120 : Int32) dX8_wants_2 (by decide) ?_
  obtain ⟨v1, σ1, hc1, h⟩ := x_b_some h
  refine x_callS C (n := 3) (c_X8_between hG hc1) wd_835 wd_836 wd_102 wd_837 (by decide +kernel) rfl ⟨Nat.le_of_ble_eq_true rfl, Nat.le_of_ble_eq_true rfl⟩ ⟨rfl, rfl⟩ rfl (Nat.le_of_ble_eq_true rfl) dX8_wants_4 ?_
  refine x_if_eq C 19 dX8_wants_7 rfl (fun hc => ?_) (fun hc => ?_)
  · replace h := x_itp hc h
    refine x_iconst C (-1 : Int32) dX8_wants_19 (by decide) ?_
    obtain ⟨rfl, rfl⟩ := x_ret h
    exact x_iret C dX8_wants_20
  · replace h := x_itn hc h
    refine x_iload_n C 2 dX8_wants_10 rfl rfl ?_
    refine x_iconst C (0 : Int32) dX8_wants_11 (by decide) ?_
    refine x_iconst C (1 : Int32) dX8_wants_12 (by decide) ?_
    obtain ⟨v2, σ2, hc2, h⟩ := x_b_some h
    refine x_callS C (n := 3) (c_X8_between hG hc2) wd_835 wd_836 wd_102 wd_837 (by decide +kernel) rfl ⟨Nat.le_of_ble_eq_true rfl, Nat.le_of_ble_eq_true rfl⟩ ⟨rfl, rfl⟩ rfl (Nat.le_of_ble_eq_true rfl) dX8_wants_13 ?_
    refine x_if_ne C 21 dX8_wants_16 rfl (fun hc => ?_) (fun hc => ?_)
    · replace h := x_itn hc h
      refine x_aload_n C 0 dX8_wants_21 rfl rfl ?_
      obtain ⟨v3, σ3, hc3, h⟩ := x_b_some h
      refine x_callV C (n := 0) (c_X8_asleepOrAlone hG hc3) kX_0 (by decide) rfl wd_938 wd_940 wd_33 wd_102 wd_941 (by decide +kernel) rfl ⟨Nat.le_of_ble_eq_true rfl, Nat.le_of_ble_eq_true rfl⟩ ⟨rfl, rfl⟩ rfl (Nat.le_of_ble_eq_true rfl) dX8_wants_22 ?_
      refine x_if_eq C 31 dX8_wants_25 rfl (fun hc => ?_) (fun hc => ?_)
      · replace h := x_itp hc h
        refine x_aload_n C 0 dX8_wants_31 rfl rfl ?_
        refine x_getRq C (k := 9) kX_0 (by decide) rfl x_in8 (by decide) (by decide) rfl rfl wd_552 rfX_0_9 dX8_wants_32 ?_
        obtain ⟨v4, σ4, hc4, h⟩ := x_b_some h
        refine x_callV C (n := 0) (c_X2_begin hG kX_167 hc4) kX_167 (by decide) rfl wd_985 wd_986 wd_987 wd_110 wd_988 (by decide +kernel) rfl ⟨Nat.le_of_ble_eq_true rfl, Nat.le_of_ble_eq_true rfl⟩ ⟨rfl, rfl⟩ rfl (Nat.le_of_ble_eq_true rfl) dX8_wants_35 ?_
        refine x_iconst C (0 : Int32) dX8_wants_38 (by decide) ?_
        refine x_istore_n C [(3, .int (0 : Int32)), (0, .ref (x_ad G 0)), (1, .int x1), (2, .int x2)] dX8_wants_39 rfl (by decide) rfl ?_
        exact x_sub [1, 2, 3, 0] rfl (w_X8_wants_40 C x_fuel x1 x2 (0 : Int32) σ4 h)
      · replace h := x_itn hc h
        refine x_bipush C (-2 : Int32) dX8_wants_28 (by decide) ?_
        obtain ⟨rfl, rfl⟩ := x_ret h
        exact x_iret C dX8_wants_30
    · replace h := x_itp hc h
      refine x_iconst C (-1 : Int32) dX8_wants_19 (by decide) ?_
      obtain ⟨rfl, rfl⟩ := x_ret h
      exact x_iret C dX8_wants_20
abbrev rm_X8_criedInSight : Room := { frames := 6, cells := 0, slots := 0, locals := 147 }
set_option maxHeartbeats 4000000 in
set_option maxRecDepth 100000 in
theorem c_X8_criedInSight (hG : x_OK TX G) {x1 : Int32} {x2 : Int32} {σ τ : x_Hp} {r : Int32} (h : F_X8_criedInSight x1 x2 σ = some (r, τ)) : x_M l TX G yX8_criedInSight cX8_criedInSight 4 (some .int) rm_X8_criedInSight [.ref (x_ad G 0), .int x1, .int x2] σ (some (.int r)) τ := by
  refine x_M.of hG (lv := [(0, .ref (x_ad G 0)), (1, .int x1), (2, .int x2)]) (by decide) (Nat.le_of_ble_eq_true rfl) rfl (fun p e s m below meth c C => ?_)
  rw [F_X8_criedInSight] at h
  refine x_aload_n C 0 dX8_criedInSight_0 rfl rfl ?_
  refine x_getRq C (k := 4) kX_0 (by decide) rfl x_in8 (by decide) (by decide) rfl rfl wd_547 rfX_0_4 dX8_criedInSight_1 ?_
  refine x_aload_n C 0 dX8_criedInSight_4 rfl rfl ?_
  refine x_getRq C (k := 3) kX_0 (by decide) rfl x_in8 (by decide) (by decide) rfl rfl wd_546 rfX_0_3 dX8_criedInSight_5 ?_
  obtain ⟨v1, σ1, hc1, h⟩ := x_b_some h
  refine x_callV C (n := 1) (c_X5_takeFrom hG kX_37 kX_35 hc1) kX_37 (by decide) rfl wd_971 wd_886 wd_887 wd_107 wd_888 (by decide +kernel) rfl ⟨Nat.le_of_ble_eq_true rfl, Nat.le_of_ble_eq_true rfl⟩ ⟨rfl, rfl⟩ rfl (Nat.le_of_ble_eq_true rfl) dX8_criedInSight_8 ?_
  refine x_aload_n C 0 dX8_criedInSight_11 rfl rfl ?_
  refine x_getRq C (k := 4) kX_0 (by decide) rfl x_in8 (by decide) (by decide) rfl rfl wd_547 rfX_0_4 dX8_criedInSight_12 ?_
  refine x_iconst C (1 : Int32) dX8_criedInSight_15 (by decide) ?_
  refine x_putI C (k := 8) tyX5 kX_37 (by decide) rfl x_in5 tyX5_ok nmX5 (by decide) (by decide) rfl rfl wd_329 rfl (tyX5_ok 8 (by decide)) rfl rfl dX8_criedInSight_16 (x_gen h fun σ2 h => ?_)
  refine x_aload_n C 0 dX8_criedInSight_19 rfl rfl ?_
  refine x_getRq C (k := 2) kX_0 (by decide) rfl x_in8 (by decide) (by decide) rfl rfl wd_545 rfX_0_2 dX8_criedInSight_20 ?_
  refine x_aload_n C 0 dX8_criedInSight_23 rfl rfl ?_
  refine x_getRq C (k := 4) kX_0 (by decide) rfl x_in8 (by decide) (by decide) rfl rfl wd_547 rfX_0_4 dX8_criedInSight_24 ?_
  refine x_iload_n C 1 dX8_criedInSight_27 rfl rfl ?_
  obtain ⟨v3, σ3, hc3, h⟩ := x_b_some h
  refine x_callV C (n := 2) (c_X0_cried hG kX_34 kX_37 hc3) kX_34 (by decide) rfl wd_972 wd_973 wd_974 wd_106 wd_975 (by decide +kernel) rfl ⟨Nat.le_of_ble_eq_true rfl, Nat.le_of_ble_eq_true rfl⟩ ⟨rfl, rfl⟩ rfl (Nat.le_of_ble_eq_true rfl) dX8_criedInSight_28 ?_
  refine x_istore_n C [(3, .int v3), (0, .ref (x_ad G 0)), (1, .int x1), (2, .int x2)] dX8_criedInSight_31 rfl (by decide) rfl ?_
  refine x_aload_n C 1 dX8_criedInSight_32 rfl rfl ?_
  refine x_getRq C (k := 4) kX_0 (by decide) rfl x_in8 (by decide) (by decide) rfl rfl wd_547 rfX_0_4 dX8_criedInSight_33 ?_
  refine x_iconst C (0 : Int32) dX8_criedInSight_36 (by decide) ?_
  refine x_putI C (k := 8) tyX5 kX_37 (by decide) rfl x_in5 tyX5_ok nmX5 (by decide) (by decide) rfl rfl wd_329 rfl (tyX5_ok 8 (by decide)) rfl rfl dX8_criedInSight_37 (x_gen h fun σ4 h => ?_)
  refine x_iload_n C 0 dX8_criedInSight_40 rfl rfl ?_
  refine x_aload_n C 1 dX8_criedInSight_41 rfl rfl ?_
  refine x_getRq C (k := 2) kX_0 (by decide) rfl x_in8 (by decide) (by decide) rfl rfl wd_545 rfX_0_2 dX8_criedInSight_42 ?_
  refine x_aload_n C 1 dX8_criedInSight_45 rfl rfl ?_
  refine x_getRq C (k := 4) kX_0 (by decide) rfl x_in8 (by decide) (by decide) rfl rfl wd_547 rfX_0_4 dX8_criedInSight_46 ?_
  refine x_iload_n C 3 dX8_criedInSight_49 rfl rfl ?_
  refine x_iload_n C 2 dX8_criedInSight_50 rfl rfl ?_
  refine x_isub C dX8_criedInSight_51 ?_
  obtain ⟨v5, σ5, hc5, h⟩ := x_b_some h
  refine x_callV C (n := 2) (c_X0_cried hG kX_34 kX_37 hc5) kX_34 (by decide) rfl wd_972 wd_973 wd_974 wd_106 wd_975 (by decide +kernel) rfl ⟨Nat.le_of_ble_eq_true rfl, Nat.le_of_ble_eq_true rfl⟩ ⟨rfl, rfl⟩ rfl (Nat.le_of_ble_eq_true rfl) dX8_criedInSight_52 ?_
  refine x_iadd C dX8_criedInSight_55 ?_
  obtain ⟨rfl, rfl⟩ := x_ret h
  exact x_iret C dX8_criedInSight_56
abbrev rm_X8_moment : Room := { frames := 7, cells := 0, slots := 0, locals := 170 }
set_option maxHeartbeats 4000000 in
set_option maxRecDepth 100000 in
theorem c_X8_moment (hG : x_OK TX G) {x1 : Int32} {σ τ : x_Hp} {r : Int32} (h : F_X8_moment x1 σ = some (r, τ)) : x_M l TX G yX8_moment cX8_moment 2 (some .int) rm_X8_moment [.ref (x_ad G 0), .int x1] σ (some (.int r)) τ := by
  refine x_M.of hG (lv := [(0, .ref (x_ad G 0)), (1, .int x1)]) (by decide) (Nat.le_of_ble_eq_true rfl) rfl (fun p e s m below meth c C => ?_)
  rw [F_X8_moment] at h
  refine x_iload_n C 1 dX8_moment_0 rfl rfl ?_
  refine x_iconst C (1 : Int32) dX8_moment_1 (by decide) ?_
  refine x_bipush C (120 : Int32) dX8_moment_2 (by decide) ?_
  obtain ⟨v1, σ1, hc1, h⟩ := x_b_some h
  refine x_callS C (n := 3) (c_X8_between hG hc1) wd_835 wd_836 wd_102 wd_837 (by decide +kernel) rfl ⟨Nat.le_of_ble_eq_true rfl, Nat.le_of_ble_eq_true rfl⟩ ⟨rfl, rfl⟩ rfl (Nat.le_of_ble_eq_true rfl) dX8_moment_4 ?_
  refine x_if_ne C 14 dX8_moment_7 rfl (fun hc => ?_) (fun hc => ?_)
  · replace h := x_itn hc h
    refine x_aload_n C 0 dX8_moment_14 rfl rfl ?_
    refine x_iconst C (1 : Int32) dX8_moment_15 (by decide) ?_
    refine x_iload_n C 1 dX8_moment_16 rfl rfl ?_
    obtain ⟨v2, σ2, hc2, h⟩ := x_b_some h
    refine x_callV C (n := 2) (c_X8_criedInSight hG hc2) kX_0 (by decide) rfl wd_1068 wd_1070 wd_41 wd_102 wd_1071 (by decide +kernel) rfl ⟨Nat.le_of_ble_eq_true rfl, Nat.le_of_ble_eq_true rfl⟩ ⟨rfl, rfl⟩ rfl (Nat.le_of_ble_eq_true rfl) dX8_moment_17 ?_
    refine x_aload_n C 0 dX8_moment_20 rfl rfl ?_
    refine x_iconst C (0 : Int32) dX8_moment_21 (by decide) ?_
    refine x_iload_n C 1 dX8_moment_22 rfl rfl ?_
    obtain ⟨v3, σ3, hc3, h⟩ := x_b_some h
    refine x_callV C (n := 2) (c_X8_criedInSight hG hc3) kX_0 (by decide) rfl wd_1068 wd_1070 wd_41 wd_102 wd_1071 (by decide +kernel) rfl ⟨Nat.le_of_ble_eq_true rfl, Nat.le_of_ble_eq_true rfl⟩ ⟨rfl, rfl⟩ rfl (Nat.le_of_ble_eq_true rfl) dX8_moment_23 ?_
    refine x_isub C dX8_moment_26 ?_
    obtain ⟨rfl, rfl⟩ := x_ret h
    exact x_iret C dX8_moment_27
  · replace h := x_itp hc h
    refine x_ldcw C wd_1067 dX8_moment_10 ?_
    obtain ⟨rfl, rfl⟩ := x_ret h
    exact x_iret C dX8_moment_13
abbrev rm_X8_beat : Room := { frames := 6, cells := 0, slots := 0, locals := 147 }
set_option maxHeartbeats 4000000 in
set_option maxRecDepth 100000 in
theorem w_X8_beat_93 {r : Int32} {τ : x_Hp} (C : x_C p s m args meth c cX8_beat 5 (some .int) yX8_beat.cls TX G) {k52 : Int32 → Int32 → Int32 → Int32 → x_Hp → Option (Int32 × x_Hp)} (hk52 : ∀ (x1 : Int32) (x2 : Int32) (x3 : Int32) (x4 : Int32) (σ : x_Hp) (h : k52 x1 x2 x3 x4 σ = some (r, τ)), x_W p l e rm_X8_beat s m args below meth c (MQ below (x_Q TX G (some (.int r)) τ) args s 0 0 (x_A TX G)) TX G 5 52 [(0, .ref (x_ad G 0)), (1, .int x1), (2, .int x2), (3, .int x3), (4, .int x4)] [] σ) (x1 : Int32) (x2 : Int32) (x3 : Int32) (x4 : Int32) (σ : x_Hp) (h : F_X8_beat_93 k52 x1 x2 x3 x4 σ = some (r, τ)) : x_W p l e rm_X8_beat s m args below meth c (MQ below (x_Q TX G (some (.int r)) τ) args s 0 0 (x_A TX G)) TX G 5 93 [(0, .ref (x_ad G 0)), (1, .int x1), (2, .int x2), (3, .int x3), (4, .int x4)] [] σ := by
  have hG : x_OK TX G := C.2.2.2.2.2.2.2.2.1
  rw [F_X8_beat_93] at h
  refine x_aload_n C 0 dX8_beat_93 rfl rfl ?_
  refine x_getRq C (k := 4) kX_0 (by decide) rfl x_in8 (by decide) (by decide) rfl rfl wd_547 rfX_0_4 dX8_beat_94 ?_
  refine x_iload C 4 dX8_beat_97 rfl ?_
  refine x_putI C (k := 5) tyX5 kX_37 (by decide) rfl x_in5 tyX5_ok nmX5 (by decide) (by decide) rfl rfl wd_322 rfl (tyX5_ok 5 (by decide)) rfl rfl dX8_beat_99 (x_gen h fun σ8 h => ?_)
  refine x_aload_n C 0 dX8_beat_102 rfl rfl ?_
  refine x_getRq C (k := 9) kX_0 (by decide) rfl x_in8 (by decide) (by decide) rfl rfl wd_552 rfX_0_9 dX8_beat_103 ?_
  refine x_iload C 4 dX8_beat_106 rfl ?_
  refine x_aload_n C 0 dX8_beat_108 rfl rfl ?_
  refine x_getRq C (k := 2) kX_0 (by decide) rfl x_in8 (by decide) (by decide) rfl rfl wd_545 rfX_0_2 dX8_beat_109 ?_
  refine x_aload_n C 0 dX8_beat_112 rfl rfl ?_
  refine x_getRq C (k := 4) kX_0 (by decide) rfl x_in8 (by decide) (by decide) rfl rfl wd_547 rfX_0_4 dX8_beat_113 ?_
  refine x_iload_n C 2 dX8_beat_116 rfl rfl ?_
  obtain ⟨v9, σ9, hc9, h⟩ := x_b_some h
  refine x_callV C (n := 2) (c_X0_cried hG kX_34 kX_37 hc9) kX_34 (by decide) rfl wd_972 wd_973 wd_974 wd_106 wd_975 (by decide +kernel) rfl ⟨Nat.le_of_ble_eq_true rfl, Nat.le_of_ble_eq_true rfl⟩ ⟨rfl, rfl⟩ rfl (Nat.le_of_ble_eq_true rfl) dX8_beat_117 ?_
  obtain ⟨v10, σ10, hc10, h⟩ := x_b_some h
  refine x_callV C (n := 2) (c_X2_offer hG kX_167 hc10) kX_167 (by decide) rfl wd_989 wd_990 wd_991 wd_110 wd_992 (by decide +kernel) rfl ⟨Nat.le_of_ble_eq_true rfl, Nat.le_of_ble_eq_true rfl⟩ ⟨rfl, rfl⟩ rfl (Nat.le_of_ble_eq_true rfl) dX8_beat_120 ?_
  refine x_iinc C 4 (x4 + (1 : Int32)) [(4, .int (x4 + (1 : Int32))), (0, .ref (x_ad G 0)), (1, .int x1), (2, .int x2), (3, .int x3)] dX8_beat_123 rfl rfl (by decide) rfl ?_
  refine x_goto C 52 dX8_beat_126 rfl ?_
  exact x_sub [1, 2, 3, 4, 0] rfl (hk52 x1 x2 x3 (x4 + (1 : Int32)) σ10 h)
set_option maxHeartbeats 4000000 in
set_option maxRecDepth 100000 in
theorem w_X8_beat_52 {r : Int32} {τ : x_Hp} (C : x_C p s m args meth c cX8_beat 5 (some .int) yX8_beat.cls TX G) : ∀ (n : Nat) (x1 : Int32) (x2 : Int32) (x3 : Int32) (x4 : Int32) (σ : x_Hp) (h : F_X8_beat_52 n x1 x2 x3 x4 σ = some (r, τ)), x_W p l e rm_X8_beat s m args below meth c (MQ below (x_Q TX G (some (.int r)) τ) args s 0 0 (x_A TX G)) TX G 5 52 [(0, .ref (x_ad G 0)), (1, .int x1), (2, .int x2), (3, .int x3), (4, .int x4)] [] σ := by
  intro n
  induction n with
  | zero => intro x1 x2 x3 x4 σ  h; cases h
  | succ n ih =>
    intro x1 x2 x3 x4 σ  h
    have hG : x_OK TX G := C.2.2.2.2.2.2.2.2.1
    rw [F_X8_beat_52] at h
    refine x_iload C 4 dX8_beat_52 rfl ?_
    refine x_bipush C (9 : Int32) dX8_beat_54 (by decide) ?_
    refine x_icmp_gt C 129 dX8_beat_56 rfl (fun hc => ?_) (fun hc => ?_)
    · replace h := x_itp hc h
      refine x_aload_n C 0 dX8_beat_129 rfl rfl ?_
      refine x_getRq C (k := 9) kX_0 (by decide) rfl x_in8 (by decide) (by decide) rfl rfl wd_552 rfX_0_9 dX8_beat_130 ?_
      refine x_iload_n C 3 dX8_beat_133 rfl rfl ?_
      obtain ⟨v5, σ5, hc5, h⟩ := x_b_some h
      refine x_callV C (n := 1) (c_X2_pick hG kX_167 hc5) kX_167 (by decide) rfl wd_993 wd_994 wd_995 wd_110 wd_996 (by decide +kernel) rfl ⟨Nat.le_of_ble_eq_true rfl, Nat.le_of_ble_eq_true rfl⟩ ⟨rfl, rfl⟩ rfl (Nat.le_of_ble_eq_true rfl) dX8_beat_134 ?_
      obtain ⟨rfl, rfl⟩ := x_ret h
      exact x_iret C dX8_beat_137
    · replace h := x_itn hc h
      refine x_aload_n C 0 dX8_beat_59 rfl rfl ?_
      refine x_getRq C (k := 4) kX_0 (by decide) rfl x_in8 (by decide) (by decide) rfl rfl wd_547 rfX_0_4 dX8_beat_60 ?_
      refine x_aload_n C 0 dX8_beat_63 rfl rfl ?_
      refine x_getRq C (k := 3) kX_0 (by decide) rfl x_in8 (by decide) (by decide) rfl rfl wd_546 rfX_0_3 dX8_beat_64 ?_
      obtain ⟨v6, σ6, hc6, h⟩ := x_b_some h
      refine x_callV C (n := 1) (c_X5_takeFrom hG kX_37 kX_35 hc6) kX_37 (by decide) rfl wd_971 wd_886 wd_887 wd_107 wd_888 (by decide +kernel) rfl ⟨Nat.le_of_ble_eq_true rfl, Nat.le_of_ble_eq_true rfl⟩ ⟨rfl, rfl⟩ rfl (Nat.le_of_ble_eq_true rfl) dX8_beat_67 ?_
      refine x_iload_n C 1 dX8_beat_70 rfl rfl ?_
      refine x_aload_n C 0 dX8_beat_71 rfl rfl ?_
      refine x_getRq C (k := 4) kX_0 (by decide) rfl x_in8 (by decide) (by decide) rfl rfl wd_547 rfX_0_4 dX8_beat_72 ?_
      refine x_getI C (k := 9) kX_37 (by decide) rfl x_in5 (by decide) (by decide) rfl rfl wd_332 dX8_beat_75 ?_
      refine x_icmp_eq C 93 dX8_beat_78 rfl (fun hc => ?_) (fun hc => ?_)
      · replace h := x_itp hc h
        exact x_sub [0, 1, 2, 3, 4] rfl (w_X8_beat_93 C ih x1 x2 x3 x4 σ6 h)
      · replace h := x_itn hc h
        refine x_aload_n C 0 dX8_beat_81 rfl rfl ?_
        refine x_getRq C (k := 2) kX_0 (by decide) rfl x_in8 (by decide) (by decide) rfl rfl wd_545 rfX_0_2 dX8_beat_82 ?_
        refine x_aload_n C 0 dX8_beat_85 rfl rfl ?_
        refine x_getRq C (k := 4) kX_0 (by decide) rfl x_in8 (by decide) (by decide) rfl rfl wd_547 rfX_0_4 dX8_beat_86 ?_
        refine x_iload_n C 1 dX8_beat_89 rfl rfl ?_
        obtain ⟨v7, σ7, hc7, h⟩ := x_b_some h
        refine x_callV C (n := 2) (c_X0_giveOver hG kX_34 kX_37 hc7) kX_34 (by decide) rfl wd_929 wd_930 wd_931 wd_106 wd_932 (by decide +kernel) rfl ⟨Nat.le_of_ble_eq_true rfl, Nat.le_of_ble_eq_true rfl⟩ ⟨rfl, rfl⟩ rfl (Nat.le_of_ble_eq_true rfl) dX8_beat_90 ?_
        exact x_sub [0, 1, 2, 3, 4] rfl (w_X8_beat_93 C ih x1 x2 x3 x4 σ7 h)
set_option maxHeartbeats 4000000 in
set_option maxRecDepth 100000 in
theorem c_X8_beat (hG : x_OK TX G) {x1 : Int32} {x2 : Int32} {x3 : Int32} {σ τ : x_Hp} {r : Int32} (h : F_X8_beat x1 x2 x3 σ = some (r, τ)) : x_M l TX G yX8_beat cX8_beat 5 (some .int) rm_X8_beat [.ref (x_ad G 0), .int x1, .int x2, .int x3] σ (some (.int r)) τ := by
  refine x_M.of hG (lv := [(0, .ref (x_ad G 0)), (1, .int x1), (2, .int x2), (3, .int x3)]) (by decide) (Nat.le_of_ble_eq_true rfl) rfl (fun p e s m below meth c C => ?_)
  rw [F_X8_beat] at h
  refine x_aload_n C 0 dX8_beat_0 rfl rfl ?_
  refine x_iload_n C 1 dX8_beat_1 rfl rfl ?_
  obtain ⟨v1, σ1, hc1, h⟩ := x_b_some h
  refine x_callV C (n := 1) (c_X8_isAunt hG hc1) kX_0 (by decide) rfl wd_831 wd_833 wd_27 wd_102 wd_834 (by decide +kernel) rfl ⟨Nat.le_of_ble_eq_true rfl, Nat.le_of_ble_eq_true rfl⟩ ⟨rfl, rfl⟩ rfl (Nat.le_of_ble_eq_true rfl) dX8_beat_2 ?_
  refine x_if_eq C 27 dX8_beat_5 rfl (fun hc => ?_) (fun hc => ?_)
  · replace h := x_itp hc h
    refine x_iconst C (-1 : Int32) dX8_beat_27 (by decide) ?_
    obtain ⟨rfl, rfl⟩ := x_ret h
    exact x_iret C dX8_beat_28
  · replace h := x_itn hc h
    refine x_iload_n C 2 dX8_beat_8 rfl rfl ?_
    refine x_iconst C (1 : Int32) dX8_beat_9 (by decide) ?_
    refine x_bipush C (120 : Int32) dX8_beat_10 (by decide) ?_
    obtain ⟨v2, σ2, hc2, h⟩ := x_b_some h
    refine x_callS C (n := 3) (c_X8_between hG hc2) wd_835 wd_836 wd_102 wd_837 (by decide +kernel) rfl ⟨Nat.le_of_ble_eq_true rfl, Nat.le_of_ble_eq_true rfl⟩ ⟨rfl, rfl⟩ rfl (Nat.le_of_ble_eq_true rfl) dX8_beat_12 ?_
    refine x_if_eq C 27 dX8_beat_15 rfl (fun hc => ?_) (fun hc => ?_)
    · replace h := x_itp hc h
      refine x_iconst C (-1 : Int32) dX8_beat_27 (by decide) ?_
      obtain ⟨rfl, rfl⟩ := x_ret h
      exact x_iret C dX8_beat_28
    · replace h := x_itn hc h
      refine x_iload_n C 3 dX8_beat_18 rfl rfl ?_
      refine x_iconst C (0 : Int32) dX8_beat_19 (by decide) ?_
      refine x_iconst C (1 : Int32) dX8_beat_20 (by decide) ?_
      obtain ⟨v3, σ3, hc3, h⟩ := x_b_some h
      refine x_callS C (n := 3) (c_X8_between hG hc3) wd_835 wd_836 wd_102 wd_837 (by decide +kernel) rfl ⟨Nat.le_of_ble_eq_true rfl, Nat.le_of_ble_eq_true rfl⟩ ⟨rfl, rfl⟩ rfl (Nat.le_of_ble_eq_true rfl) dX8_beat_21 ?_
      refine x_if_ne C 29 dX8_beat_24 rfl (fun hc => ?_) (fun hc => ?_)
      · replace h := x_itn hc h
        refine x_aload_n C 0 dX8_beat_29 rfl rfl ?_
        refine x_getRq C (k := 3) kX_0 (by decide) rfl x_in8 (by decide) (by decide) rfl rfl wd_546 rfX_0_3 dX8_beat_30 ?_
        refine x_getI C (k := 13) kX_35 (by decide) rfl x_in5 (by decide) (by decide) rfl rfl wd_344 dX8_beat_33 ?_
        refine x_if_le C 42 dX8_beat_36 rfl (fun hc => ?_) (fun hc => ?_)
        · replace h := x_itp hc h
          refine x_aload_n C 0 dX8_beat_42 rfl rfl ?_
          refine x_getRq C (k := 9) kX_0 (by decide) rfl x_in8 (by decide) (by decide) rfl rfl wd_552 rfX_0_9 dX8_beat_43 ?_
          obtain ⟨v4, σ4, hc4, h⟩ := x_b_some h
          refine x_callV C (n := 0) (c_X2_begin hG kX_167 hc4) kX_167 (by decide) rfl wd_985 wd_986 wd_987 wd_110 wd_988 (by decide +kernel) rfl ⟨Nat.le_of_ble_eq_true rfl, Nat.le_of_ble_eq_true rfl⟩ ⟨rfl, rfl⟩ rfl (Nat.le_of_ble_eq_true rfl) dX8_beat_46 ?_
          refine x_iconst C (0 : Int32) dX8_beat_49 (by decide) ?_
          refine x_istore C [(4, .int (0 : Int32)), (0, .ref (x_ad G 0)), (1, .int x1), (2, .int x2), (3, .int x3)] dX8_beat_50 (by decide) rfl ?_
          exact x_sub [1, 2, 3, 4, 0] rfl (w_X8_beat_52 C x_fuel x1 x2 x3 (0 : Int32) σ4 h)
        · replace h := x_itn hc h
          refine x_bipush C (-2 : Int32) dX8_beat_39 (by decide) ?_
          obtain ⟨rfl, rfl⟩ := x_ret h
          exact x_iret C dX8_beat_41
      · replace h := x_itp hc h
        refine x_iconst C (-1 : Int32) dX8_beat_27 (by decide) ?_
        obtain ⟨rfl, rfl⟩ := x_ret h
        exact x_iret C dX8_beat_28
abbrev rm_X8_round : Room := { frames := 6, cells := 0, slots := 0, locals := 149 }
set_option maxHeartbeats 4000000 in
set_option maxRecDepth 100000 in
theorem w_X8_round_101 {r : Int32} {τ : x_Hp} (C : x_C p s m args meth c cX8_round 6 (some .int) yX8_round.cls TX G) (s0 : Int32) (σ : x_Hp) (h : F_X8_round_101 s0 σ = some (r, τ)) : x_W p l e rm_X8_round s m args below meth c (MQ below (x_Q TX G (some (.int r)) τ) args s 0 0 (x_A TX G)) TX G 6 101 [(0, .ref (x_ad G 0))] [.int s0] σ := by
  have hG : x_OK TX G := C.2.2.2.2.2.2.2.2.1
  rw [F_X8_round_101] at h
  refine x_istore C [(5, .int s0), (0, .ref (x_ad G 0))] dX8_round_101 (by decide) rfl ?_
  refine x_aload_n C 1 dX8_round_103 rfl rfl ?_
  refine x_getRq C (k := 4) kX_0 (by decide) rfl x_in8 (by decide) (by decide) rfl rfl wd_547 rfX_0_4 dX8_round_104 ?_
  refine x_iload C 0 dX8_round_107 rfl ?_
  obtain ⟨v7, σ7, hc7, h⟩ := x_b_some h
  refine x_callV C (n := 1) (c_X5_allTallied hG kX_37 hc7) kX_37 (by decide) rfl wd_1093 wd_977 wd_978 wd_107 wd_979 (by decide +kernel) rfl ⟨Nat.le_of_ble_eq_true rfl, Nat.le_of_ble_eq_true rfl⟩ ⟨rfl, rfl⟩ rfl (Nat.le_of_ble_eq_true rfl) dX8_round_109 ?_
  refine x_aload_n C 1 dX8_round_112 rfl rfl ?_
  refine x_getRq C (k := 3) kX_0 (by decide) rfl x_in8 (by decide) (by decide) rfl rfl wd_546 rfX_0_3 dX8_round_113 ?_
  refine x_iload C 0 dX8_round_116 rfl ?_
  obtain ⟨v8, σ8, hc8, h⟩ := x_b_some h
  refine x_callV C (n := 1) (c_X5_allTallied hG kX_35 hc8) kX_35 (by decide) rfl wd_1093 wd_977 wd_978 wd_107 wd_979 (by decide +kernel) rfl ⟨Nat.le_of_ble_eq_true rfl, Nat.le_of_ble_eq_true rfl⟩ ⟨rfl, rfl⟩ rfl (Nat.le_of_ble_eq_true rfl) dX8_round_118 ?_
  refine x_isub C dX8_round_121 ?_
  obtain ⟨rfl, rfl⟩ := x_ret h
  exact x_iret C dX8_round_122
set_option maxHeartbeats 4000000 in
set_option maxRecDepth 100000 in
theorem c_X8_round (hG : x_OK TX G) {x1 : Int32} {x2 : Int32} {x3 : Int32} {x4 : Int32} {σ τ : x_Hp} {r : Int32} (h : F_X8_round x1 x2 x3 x4 σ = some (r, τ)) : x_M l TX G yX8_round cX8_round 6 (some .int) rm_X8_round [.ref (x_ad G 0), .int x1, .int x2, .int x3, .int x4] σ (some (.int r)) τ := by
  refine x_M.of hG (lv := [(0, .ref (x_ad G 0)), (1, .int x1), (2, .int x2), (3, .int x3), (4, .int x4)]) (by decide) (Nat.le_of_ble_eq_true rfl) rfl (fun p e s m below meth c C => ?_)
  rw [F_X8_round] at h
  refine x_iload_n C 1 dX8_round_0 rfl rfl ?_
  refine x_iconst C (0 : Int32) dX8_round_1 (by decide) ?_
  refine x_iconst C (3 : Int32) dX8_round_2 (by decide) ?_
  obtain ⟨v1, σ1, hc1, h⟩ := x_b_some h
  refine x_callS C (n := 3) (c_X8_between hG hc1) wd_835 wd_836 wd_102 wd_837 (by decide +kernel) rfl ⟨Nat.le_of_ble_eq_true rfl, Nat.le_of_ble_eq_true rfl⟩ ⟨rfl, rfl⟩ rfl (Nat.le_of_ble_eq_true rfl) dX8_round_3 ?_
  refine x_if_eq C 50 dX8_round_6 rfl (fun hc => ?_) (fun hc => ?_)
  · replace h := x_itp hc h
    refine x_iconst C (-1 : Int32) dX8_round_50 (by decide) ?_
    obtain ⟨rfl, rfl⟩ := x_ret h
    exact x_iret C dX8_round_51
  · replace h := x_itn hc h
    refine x_iload_n C 2 dX8_round_9 rfl rfl ?_
    refine x_iconst C (1 : Int32) dX8_round_10 (by decide) ?_
    refine x_bipush C (20 : Int32) dX8_round_11 (by decide) ?_
    obtain ⟨v2, σ2, hc2, h⟩ := x_b_some h
    refine x_callS C (n := 3) (c_X8_between hG hc2) wd_835 wd_836 wd_102 wd_837 (by decide +kernel) rfl ⟨Nat.le_of_ble_eq_true rfl, Nat.le_of_ble_eq_true rfl⟩ ⟨rfl, rfl⟩ rfl (Nat.le_of_ble_eq_true rfl) dX8_round_13 ?_
    refine x_if_eq C 50 dX8_round_16 rfl (fun hc => ?_) (fun hc => ?_)
    · replace h := x_itp hc h
      refine x_iconst C (-1 : Int32) dX8_round_50 (by decide) ?_
      obtain ⟨rfl, rfl⟩ := x_ret h
      exact x_iret C dX8_round_51
    · replace h := x_itn hc h
      refine x_iload_n C 3 dX8_round_19 rfl rfl ?_
      refine x_iconst C (1 : Int32) dX8_round_20 (by decide) ?_
      refine x_sipush C (240 : Int32) dX8_round_21 (by decide) ?_
      obtain ⟨v3, σ3, hc3, h⟩ := x_b_some h
      refine x_callS C (n := 3) (c_X8_between hG hc3) wd_835 wd_836 wd_102 wd_837 (by decide +kernel) rfl ⟨Nat.le_of_ble_eq_true rfl, Nat.le_of_ble_eq_true rfl⟩ ⟨rfl, rfl⟩ rfl (Nat.le_of_ble_eq_true rfl) dX8_round_24 ?_
      refine x_if_eq C 50 dX8_round_27 rfl (fun hc => ?_) (fun hc => ?_)
      · replace h := x_itp hc h
        refine x_iconst C (-1 : Int32) dX8_round_50 (by decide) ?_
        obtain ⟨rfl, rfl⟩ := x_ret h
        exact x_iret C dX8_round_51
      · replace h := x_itn hc h
        refine x_iload C 4 dX8_round_30 rfl ?_
        refine x_iconst C (0 : Int32) dX8_round_32 (by decide) ?_
        refine x_iconst C (2 : Int32) dX8_round_33 (by decide) ?_
        obtain ⟨v4, σ4, hc4, h⟩ := x_b_some h
        refine x_callS C (n := 3) (c_X8_between hG hc4) wd_835 wd_836 wd_102 wd_837 (by decide +kernel) rfl ⟨Nat.le_of_ble_eq_true rfl, Nat.le_of_ble_eq_true rfl⟩ ⟨rfl, rfl⟩ rfl (Nat.le_of_ble_eq_true rfl) dX8_round_34 ?_
        refine x_if_eq C 50 dX8_round_37 rfl (fun hc => ?_) (fun hc => ?_)
        · replace h := x_itp hc h
          refine x_iconst C (-1 : Int32) dX8_round_50 (by decide) ?_
          obtain ⟨rfl, rfl⟩ := x_ret h
          exact x_iret C dX8_round_51
        · replace h := x_itn hc h
          refine x_aload_n C 0 dX8_round_40 rfl rfl ?_
          refine x_getRq C (k := 0) kX_0 (by decide) rfl x_in8 (by decide) (by decide) rfl rfl wd_543 rfX_0_0 dX8_round_41 ?_
          refine x_getI C (k := 7) kX_1 (by decide) rfl x_in6 (by decide) (by decide) rfl rfl wd_187 dX8_round_44 ?_
          refine x_if_ne C 52 dX8_round_47 rfl (fun hc => ?_) (fun hc => ?_)
          · replace h := x_itn hc h
            refine x_aload_n C 0 dX8_round_52 rfl rfl ?_
            refine x_getRq C (k := 4) kX_0 (by decide) rfl x_in8 (by decide) (by decide) rfl rfl wd_547 rfX_0_4 dX8_round_53 ?_
            refine x_aload_n C 0 dX8_round_56 rfl rfl ?_
            refine x_getRq C (k := 3) kX_0 (by decide) rfl x_in8 (by decide) (by decide) rfl rfl wd_546 rfX_0_3 dX8_round_57 ?_
            obtain ⟨v5, σ5, hc5, h⟩ := x_b_some h
            refine x_callV C (n := 1) (c_X5_takeFrom hG kX_37 kX_35 hc5) kX_37 (by decide) rfl wd_971 wd_886 wd_887 wd_107 wd_888 (by decide +kernel) rfl ⟨Nat.le_of_ble_eq_true rfl, Nat.le_of_ble_eq_true rfl⟩ ⟨rfl, rfl⟩ rfl (Nat.le_of_ble_eq_true rfl) dX8_round_60 ?_
            refine x_aload_n C 0 dX8_round_63 rfl rfl ?_
            refine x_getRq C (k := 2) kX_0 (by decide) rfl x_in8 (by decide) (by decide) rfl rfl wd_545 rfX_0_2 dX8_round_64 ?_
            refine x_aload_n C 0 dX8_round_67 rfl rfl ?_
            refine x_getRq C (k := 4) kX_0 (by decide) rfl x_in8 (by decide) (by decide) rfl rfl wd_547 rfX_0_4 dX8_round_68 ?_
            refine x_iload_n C 1 dX8_round_71 rfl rfl ?_
            refine x_iload_n C 2 dX8_round_72 rfl rfl ?_
            refine x_iload_n C 3 dX8_round_73 rfl rfl ?_
            obtain ⟨v6, σ6, hc6, h⟩ := x_b_some h
            refine x_callV C (n := 4) (c_X0_goByRule hG kX_34 kX_37 hc6) kX_34 (by decide) rfl wd_1080 wd_1081 wd_1082 wd_106 wd_1083 (by decide +kernel) rfl ⟨Nat.le_of_ble_eq_true rfl, Nat.le_of_ble_eq_true rfl⟩ ⟨rfl, rfl⟩ rfl (Nat.le_of_ble_eq_true rfl) dX8_round_74 ?_
            refine x_iload C 4 dX8_round_77 rfl ?_
            refine x_iconst C (2 : Int32) dX8_round_79 (by decide) ?_
            refine x_icmp_ne C 91 dX8_round_80 rfl (fun hc => ?_) (fun hc => ?_)
            · replace h := x_itn hc h
              refine x_iload C 4 dX8_round_91 rfl ?_
              refine x_if_ne C 100 dX8_round_93 rfl (fun hc => ?_) (fun hc => ?_)
              · replace h := x_itn hc h
                refine x_iconst C (2 : Int32) dX8_round_100 (by decide) ?_
                exact x_sub [0] rfl (w_X8_round_101 C (2 : Int32) σ6 h)
              · replace h := x_itp hc h
                refine x_iconst C (1 : Int32) dX8_round_96 (by decide) ?_
                refine x_goto C 101 dX8_round_97 rfl ?_
                exact x_sub [0] rfl (w_X8_round_101 C (1 : Int32) σ6 h)
            · replace h := x_itp hc h
              refine x_aload_n C 0 dX8_round_83 rfl rfl ?_
              refine x_getRq C (k := 4) kX_0 (by decide) rfl x_in8 (by decide) (by decide) rfl rfl wd_547 rfX_0_4 dX8_round_84 ?_
              refine x_getI C (k := 9) kX_37 (by decide) rfl x_in5 (by decide) (by decide) rfl rfl wd_332 dX8_round_87 ?_
              obtain ⟨rfl, rfl⟩ := x_ret h
              exact x_iret C dX8_round_90
          · replace h := x_itp hc h
            refine x_iconst C (-1 : Int32) dX8_round_50 (by decide) ?_
            obtain ⟨rfl, rfl⟩ := x_ret h
            exact x_iret C dX8_round_51
abbrev rm_X8_fairest : Room := { frames := 7, cells := 0, slots := 0, locals := 178 }
set_option maxHeartbeats 4000000 in
set_option maxRecDepth 100000 in
theorem c_X8_fairest (hG : x_OK TX G) {x1 : Int32} {x2 : Int32} {σ τ : x_Hp} {r : Int32} (h : F_X8_fairest x1 x2 σ = some (r, τ)) : x_M l TX G yX8_fairest cX8_fairest 3 (some .int) rm_X8_fairest [.ref (x_ad G 0), .int x1, .int x2] σ (some (.int r)) τ := by
  refine x_M.of hG (lv := [(0, .ref (x_ad G 0)), (1, .int x1), (2, .int x2)]) (by decide) (Nat.le_of_ble_eq_true rfl) rfl (fun p e s m below meth c C => ?_)
  rw [F_X8_fairest] at h
  refine x_iload_n C 1 dX8_fairest_0 rfl rfl ?_
  refine x_iconst C (1 : Int32) dX8_fairest_1 (by decide) ?_
  refine x_bipush C (10 : Int32) dX8_fairest_2 (by decide) ?_
  obtain ⟨v1, σ1, hc1, h⟩ := x_b_some h
  refine x_callS C (n := 3) (c_X8_between hG hc1) wd_835 wd_836 wd_102 wd_837 (by decide +kernel) rfl ⟨Nat.le_of_ble_eq_true rfl, Nat.le_of_ble_eq_true rfl⟩ ⟨rfl, rfl⟩ rfl (Nat.le_of_ble_eq_true rfl) dX8_fairest_4 ?_
  refine x_if_eq C 19 dX8_fairest_7 rfl (fun hc => ?_) (fun hc => ?_)
  · replace h := x_itp hc h
    refine x_iconst C (-1 : Int32) dX8_fairest_19 (by decide) ?_
    obtain ⟨rfl, rfl⟩ := x_ret h
    exact x_iret C dX8_fairest_20
  · replace h := x_itn hc h
    refine x_iload_n C 2 dX8_fairest_10 rfl rfl ?_
    refine x_iconst C (0 : Int32) dX8_fairest_11 (by decide) ?_
    refine x_iconst C (1 : Int32) dX8_fairest_12 (by decide) ?_
    obtain ⟨v2, σ2, hc2, h⟩ := x_b_some h
    refine x_callS C (n := 3) (c_X8_between hG hc2) wd_835 wd_836 wd_102 wd_837 (by decide +kernel) rfl ⟨Nat.le_of_ble_eq_true rfl, Nat.le_of_ble_eq_true rfl⟩ ⟨rfl, rfl⟩ rfl (Nat.le_of_ble_eq_true rfl) dX8_fairest_13 ?_
    refine x_if_ne C 21 dX8_fairest_16 rfl (fun hc => ?_) (fun hc => ?_)
    · replace h := x_itn hc h
      refine x_aload_n C 0 dX8_fairest_21 rfl rfl ?_
      obtain ⟨v3, σ3, hc3, h⟩ := x_b_some h
      refine x_callV C (n := 0) (c_X8_asleepOrAlone hG hc3) kX_0 (by decide) rfl wd_938 wd_940 wd_33 wd_102 wd_941 (by decide +kernel) rfl ⟨Nat.le_of_ble_eq_true rfl, Nat.le_of_ble_eq_true rfl⟩ ⟨rfl, rfl⟩ rfl (Nat.le_of_ble_eq_true rfl) dX8_fairest_22 ?_
      refine x_if_eq C 31 dX8_fairest_25 rfl (fun hc => ?_) (fun hc => ?_)
      · replace h := x_itp hc h
        refine x_aload_n C 0 dX8_fairest_31 rfl rfl ?_
        refine x_getRq C (k := 8) kX_0 (by decide) rfl x_in8 (by decide) (by decide) rfl rfl wd_551 rfX_0_8 dX8_fairest_32 ?_
        refine x_aload_n C 0 dX8_fairest_35 rfl rfl ?_
        refine x_getRq C (k := 3) kX_0 (by decide) rfl x_in8 (by decide) (by decide) rfl rfl wd_546 rfX_0_3 dX8_fairest_36 ?_
        refine x_iload_n C 1 dX8_fairest_39 rfl rfl ?_
        refine x_aload_n C 0 dX8_fairest_40 rfl rfl ?_
        refine x_getRq C (k := 5) kX_0 (by decide) rfl x_in8 (by decide) (by decide) rfl rfl wd_548 rfX_0_5 dX8_fairest_41 ?_
        refine x_getI C (k := 3) kX_39 (by decide) rfl x_in7 (by decide) (by decide) rfl rfl wd_423 dX8_fairest_44 ?_
        obtain ⟨v4, σ4, hc4, h⟩ := x_b_some h
        refine x_callV C (n := 3) (c_X3_search hG kX_35 hc4) kX_143 (by decide) rfl wd_1001 wd_1002 wd_1003 wd_109 wd_1004 (by decide +kernel) rfl ⟨Nat.le_of_ble_eq_true rfl, Nat.le_of_ble_eq_true rfl⟩ ⟨rfl, rfl⟩ rfl (Nat.le_of_ble_eq_true rfl) dX8_fairest_47 ?_
        refine x_iload_n C 2 dX8_fairest_50 rfl rfl ?_
        refine x_if_ne C 67 dX8_fairest_51 rfl (fun hc => ?_) (fun hc => ?_)
        · replace h := x_itn hc h
          refine x_aload_n C 0 dX8_fairest_67 rfl rfl ?_
          refine x_getRq C (k := 8) kX_0 (by decide) rfl x_in8 (by decide) (by decide) rfl rfl wd_551 rfX_0_8 dX8_fairest_68 ?_
          refine x_getRq C (k := 8) kX_143 (by decide) rfl x_in3 (by decide) (by decide) rfl rfl wd_473 rfX_143_8 dX8_fairest_71 ?_
          refine x_getI C (k := 0) kX_152 (by decide) rfl x_in2 (by decide) (by decide) rfl rfl wd_448 dX8_fairest_74 ?_
          obtain ⟨rfl, rfl⟩ := x_ret h
          exact x_iret C dX8_fairest_77
        · replace h := x_itp hc h
          refine x_aload_n C 0 dX8_fairest_54 rfl rfl ?_
          refine x_getRq C (k := 8) kX_0 (by decide) rfl x_in8 (by decide) (by decide) rfl rfl wd_551 rfX_0_8 dX8_fairest_55 ?_
          refine x_getRq C (k := 8) kX_143 (by decide) rfl x_in3 (by decide) (by decide) rfl rfl wd_473 rfX_143_8 dX8_fairest_58 ?_
          refine x_getI C (k := 1) kX_152 (by decide) rfl x_in2 (by decide) (by decide) rfl rfl wd_451 dX8_fairest_61 ?_
          refine x_goto C 77 dX8_fairest_64 rfl ?_
          obtain ⟨rfl, rfl⟩ := x_ret h
          exact x_iret C dX8_fairest_77
      · replace h := x_itn hc h
        refine x_bipush C (-2 : Int32) dX8_fairest_28 (by decide) ?_
        obtain ⟨rfl, rfl⟩ := x_ret h
        exact x_iret C dX8_fairest_30
    · replace h := x_itp hc h
      refine x_iconst C (-1 : Int32) dX8_fairest_19 (by decide) ?_
      obtain ⟨rfl, rfl⟩ := x_ret h
      exact x_iret C dX8_fairest_20
abbrev rm_X8_leftOut : Room := { frames := 6, cells := 0, slots := 0, locals := 148 }
set_option maxHeartbeats 4000000 in
set_option maxRecDepth 100000 in
theorem w_X8_leftOut_97 {r : Int32} {τ : x_Hp} (C : x_C p s m args meth c cX8_leftOut 5 (some .int) yX8_leftOut.cls TX G) {k40 : Int32 → Int32 → Int32 → x_Hp → Option (Int32 × x_Hp)} (hk40 : ∀ (x1 : Int32) (x2 : Int32) (x3 : Int32) (σ : x_Hp) (h : k40 x1 x2 x3 σ = some (r, τ)), x_W p l e rm_X8_leftOut s m args below meth c (MQ below (x_Q TX G (some (.int r)) τ) args s 0 0 (x_A TX G)) TX G 5 40 [(0, .ref (x_ad G 0)), (1, .int x1), (2, .int x2), (3, .int x3)] [] σ) {k65 : Int32 → Int32 → Int32 → Int32 → x_Hp → Option (Int32 × x_Hp)} (hk65 : ∀ (x1 : Int32) (x2 : Int32) (x3 : Int32) (x4 : Int32) (σ : x_Hp) (h : k65 x1 x2 x3 x4 σ = some (r, τ)), x_W p l e rm_X8_leftOut s m args below meth c (MQ below (x_Q TX G (some (.int r)) τ) args s 0 0 (x_A TX G)) TX G 5 65 [(0, .ref (x_ad G 0)), (1, .int x1), (2, .int x2), (3, .int x3), (4, .int x4)] [] σ) (x1 : Int32) (x2 : Int32) (x3 : Int32) (x4 : Int32) (σ : x_Hp) (h : F_X8_leftOut_97 k40 k65 x1 x2 x3 x4 σ = some (r, τ)) : x_W p l e rm_X8_leftOut s m args below meth c (MQ below (x_Q TX G (some (.int r)) τ) args s 0 0 (x_A TX G)) TX G 5 97 [(0, .ref (x_ad G 0)), (1, .int x1), (2, .int x2), (3, .int x3), (4, .int x4)] [] σ := by
  have hG : x_OK TX G := C.2.2.2.2.2.2.2.2.1
  rw [F_X8_leftOut_97] at h
  refine x_iinc C 4 (x4 + (1 : Int32)) [(4, .int (x4 + (1 : Int32))), (0, .ref (x_ad G 0)), (1, .int x1), (2, .int x2), (3, .int x3)] dX8_leftOut_97 rfl rfl (by decide) rfl ?_
  refine x_goto C 65 dX8_leftOut_100 rfl ?_
  exact x_sub [1, 2, 3, 4, 0] rfl (hk65 x1 x2 x3 (x4 + (1 : Int32)) σ h)
set_option maxHeartbeats 4000000 in
set_option maxRecDepth 100000 in
theorem w_X8_leftOut_65 {r : Int32} {τ : x_Hp} (C : x_C p s m args meth c cX8_leftOut 5 (some .int) yX8_leftOut.cls TX G) {k40 : Int32 → Int32 → Int32 → x_Hp → Option (Int32 × x_Hp)} (hk40 : ∀ (x1 : Int32) (x2 : Int32) (x3 : Int32) (σ : x_Hp) (h : k40 x1 x2 x3 σ = some (r, τ)), x_W p l e rm_X8_leftOut s m args below meth c (MQ below (x_Q TX G (some (.int r)) τ) args s 0 0 (x_A TX G)) TX G 5 40 [(0, .ref (x_ad G 0)), (1, .int x1), (2, .int x2), (3, .int x3)] [] σ) : ∀ (n : Nat) (x1 : Int32) (x2 : Int32) (x3 : Int32) (x4 : Int32) (σ : x_Hp) (h : F_X8_leftOut_65 k40 n x1 x2 x3 x4 σ = some (r, τ)), x_W p l e rm_X8_leftOut s m args below meth c (MQ below (x_Q TX G (some (.int r)) τ) args s 0 0 (x_A TX G)) TX G 5 65 [(0, .ref (x_ad G 0)), (1, .int x1), (2, .int x2), (3, .int x3), (4, .int x4)] [] σ := by
  intro n
  induction n with
  | zero => intro x1 x2 x3 x4 σ  h; cases h
  | succ n ih =>
    intro x1 x2 x3 x4 σ  h
    have hG : x_OK TX G := C.2.2.2.2.2.2.2.2.1
    rw [F_X8_leftOut_65] at h
    refine x_iload C 4 dX8_leftOut_65 rfl ?_
    refine x_aload_n C 0 dX8_leftOut_67 rfl rfl ?_
    refine x_getRq C (k := 0) kX_0 (by decide) rfl x_in8 (by decide) (by decide) rfl rfl wd_543 rfX_0_0 dX8_leftOut_68 ?_
    refine x_getI C (k := 7) kX_1 (by decide) rfl x_in6 (by decide) (by decide) rfl rfl wd_187 dX8_leftOut_71 ?_
    refine x_icmp_ge C 103 dX8_leftOut_74 rfl (fun hc => ?_) (fun hc => ?_)
    · replace h := x_itp hc h
      refine x_aload_n C 0 dX8_leftOut_103 rfl rfl ?_
      refine x_getRq C (k := 9) kX_0 (by decide) rfl x_in8 (by decide) (by decide) rfl rfl wd_552 rfX_0_9 dX8_leftOut_104 ?_
      refine x_iload_n C 3 dX8_leftOut_107 rfl rfl ?_
      refine x_aload_n C 0 dX8_leftOut_108 rfl rfl ?_
      refine x_getRq C (k := 4) kX_0 (by decide) rfl x_in8 (by decide) (by decide) rfl rfl wd_547 rfX_0_4 dX8_leftOut_109 ?_
      refine x_iconst C (1 : Int32) dX8_leftOut_112 (by decide) ?_
      obtain ⟨v7, σ7, hc7, h⟩ := x_b_some h
      refine x_callV C (n := 1) (c_X5_allTallied hG kX_37 hc7) kX_37 (by decide) rfl wd_1093 wd_977 wd_978 wd_107 wd_979 (by decide +kernel) rfl ⟨Nat.le_of_ble_eq_true rfl, Nat.le_of_ble_eq_true rfl⟩ ⟨rfl, rfl⟩ rfl (Nat.le_of_ble_eq_true rfl) dX8_leftOut_113 ?_
      refine x_aload_n C 0 dX8_leftOut_116 rfl rfl ?_
      refine x_getRq C (k := 3) kX_0 (by decide) rfl x_in8 (by decide) (by decide) rfl rfl wd_546 rfX_0_3 dX8_leftOut_117 ?_
      refine x_iconst C (1 : Int32) dX8_leftOut_120 (by decide) ?_
      obtain ⟨v8, σ8, hc8, h⟩ := x_b_some h
      refine x_callV C (n := 1) (c_X5_allTallied hG kX_35 hc8) kX_35 (by decide) rfl wd_1093 wd_977 wd_978 wd_107 wd_979 (by decide +kernel) rfl ⟨Nat.le_of_ble_eq_true rfl, Nat.le_of_ble_eq_true rfl⟩ ⟨rfl, rfl⟩ rfl (Nat.le_of_ble_eq_true rfl) dX8_leftOut_121 ?_
      refine x_isub C dX8_leftOut_124 ?_
      obtain ⟨v9, σ9, hc9, h⟩ := x_b_some h
      refine x_callV C (n := 2) (c_X2_offer hG kX_167 hc9) kX_167 (by decide) rfl wd_989 wd_990 wd_991 wd_110 wd_992 (by decide +kernel) rfl ⟨Nat.le_of_ble_eq_true rfl, Nat.le_of_ble_eq_true rfl⟩ ⟨rfl, rfl⟩ rfl (Nat.le_of_ble_eq_true rfl) dX8_leftOut_125 ?_
      refine x_iinc C 3 (x3 + (1 : Int32)) [(3, .int (x3 + (1 : Int32))), (0, .ref (x_ad G 0)), (1, .int x1), (2, .int x2), (4, .int x4)] dX8_leftOut_128 rfl rfl (by decide) rfl ?_
      refine x_goto C 40 dX8_leftOut_131 rfl ?_
      exact x_sub [1, 2, 3, 0] rfl (hk40 x1 x2 (x3 + (1 : Int32)) σ9 h)
    · replace h := x_itn hc h
      refine x_iload C 4 dX8_leftOut_77 rfl ?_
      refine x_iload_n C 3 dX8_leftOut_79 rfl rfl ?_
      refine x_icmp_eq C 97 dX8_leftOut_80 rfl (fun hc => ?_) (fun hc => ?_)
      · replace h := x_itp hc h
        exact x_sub [0, 1, 2, 3, 4] rfl (w_X8_leftOut_97 C hk40 ih x1 x2 x3 x4 σ h)
      · replace h := x_itn hc h
        refine x_aload_n C 0 dX8_leftOut_83 rfl rfl ?_
        refine x_getRq C (k := 2) kX_0 (by decide) rfl x_in8 (by decide) (by decide) rfl rfl wd_545 rfX_0_2 dX8_leftOut_84 ?_
        refine x_aload_n C 0 dX8_leftOut_87 rfl rfl ?_
        refine x_getRq C (k := 4) kX_0 (by decide) rfl x_in8 (by decide) (by decide) rfl rfl wd_547 rfX_0_4 dX8_leftOut_88 ?_
        refine x_iload C 4 dX8_leftOut_91 rfl ?_
        refine x_iload_n C 1 dX8_leftOut_93 rfl rfl ?_
        obtain ⟨v10, σ10, hc10, h⟩ := x_b_some h
        refine x_callV C (n := 3) (c_X0_keep hG kX_34 kX_37 hc10) kX_34 (by decide) rfl wd_1102 wd_1018 wd_1019 wd_106 wd_1020 (by decide +kernel) rfl ⟨Nat.le_of_ble_eq_true rfl, Nat.le_of_ble_eq_true rfl⟩ ⟨rfl, rfl⟩ rfl (Nat.le_of_ble_eq_true rfl) dX8_leftOut_94 ?_
        exact x_sub [0, 1, 2, 3, 4] rfl (w_X8_leftOut_97 C hk40 ih x1 x2 x3 x4 σ10 h)
set_option maxHeartbeats 4000000 in
set_option maxRecDepth 100000 in
theorem w_X8_leftOut_40 {r : Int32} {τ : x_Hp} (C : x_C p s m args meth c cX8_leftOut 5 (some .int) yX8_leftOut.cls TX G) : ∀ (n : Nat) (x1 : Int32) (x2 : Int32) (x3 : Int32) (σ : x_Hp) (h : F_X8_leftOut_40 n x1 x2 x3 σ = some (r, τ)), x_W p l e rm_X8_leftOut s m args below meth c (MQ below (x_Q TX G (some (.int r)) τ) args s 0 0 (x_A TX G)) TX G 5 40 [(0, .ref (x_ad G 0)), (1, .int x1), (2, .int x2), (3, .int x3)] [] σ := by
  intro n
  induction n with
  | zero => intro x1 x2 x3 σ  h; cases h
  | succ n ih =>
    intro x1 x2 x3 σ  h
    have hG : x_OK TX G := C.2.2.2.2.2.2.2.2.1
    rw [F_X8_leftOut_40] at h
    refine x_iload_n C 3 dX8_leftOut_40 rfl rfl ?_
    refine x_aload_n C 0 dX8_leftOut_41 rfl rfl ?_
    refine x_getRq C (k := 0) kX_0 (by decide) rfl x_in8 (by decide) (by decide) rfl rfl wd_543 rfX_0_0 dX8_leftOut_42 ?_
    refine x_getI C (k := 7) kX_1 (by decide) rfl x_in6 (by decide) (by decide) rfl rfl wd_187 dX8_leftOut_45 ?_
    refine x_icmp_ge C 134 dX8_leftOut_48 rfl (fun hc => ?_) (fun hc => ?_)
    · replace h := x_itp hc h
      refine x_aload_n C 0 dX8_leftOut_134 rfl rfl ?_
      refine x_getRq C (k := 9) kX_0 (by decide) rfl x_in8 (by decide) (by decide) rfl rfl wd_552 rfX_0_9 dX8_leftOut_135 ?_
      refine x_iload_n C 2 dX8_leftOut_138 rfl rfl ?_
      obtain ⟨v5, σ5, hc5, h⟩ := x_b_some h
      refine x_callV C (n := 1) (c_X2_pick hG kX_167 hc5) kX_167 (by decide) rfl wd_993 wd_994 wd_995 wd_110 wd_996 (by decide +kernel) rfl ⟨Nat.le_of_ble_eq_true rfl, Nat.le_of_ble_eq_true rfl⟩ ⟨rfl, rfl⟩ rfl (Nat.le_of_ble_eq_true rfl) dX8_leftOut_139 ?_
      obtain ⟨rfl, rfl⟩ := x_ret h
      exact x_iret C dX8_leftOut_142
    · replace h := x_itn hc h
      refine x_aload_n C 0 dX8_leftOut_51 rfl rfl ?_
      refine x_getRq C (k := 4) kX_0 (by decide) rfl x_in8 (by decide) (by decide) rfl rfl wd_547 rfX_0_4 dX8_leftOut_52 ?_
      refine x_aload_n C 0 dX8_leftOut_55 rfl rfl ?_
      refine x_getRq C (k := 3) kX_0 (by decide) rfl x_in8 (by decide) (by decide) rfl rfl wd_546 rfX_0_3 dX8_leftOut_56 ?_
      obtain ⟨v6, σ6, hc6, h⟩ := x_b_some h
      refine x_callV C (n := 1) (c_X5_takeFrom hG kX_37 kX_35 hc6) kX_37 (by decide) rfl wd_971 wd_886 wd_887 wd_107 wd_888 (by decide +kernel) rfl ⟨Nat.le_of_ble_eq_true rfl, Nat.le_of_ble_eq_true rfl⟩ ⟨rfl, rfl⟩ rfl (Nat.le_of_ble_eq_true rfl) dX8_leftOut_59 ?_
      refine x_iconst C (0 : Int32) dX8_leftOut_62 (by decide) ?_
      refine x_istore C [(4, .int (0 : Int32)), (0, .ref (x_ad G 0)), (1, .int x1), (2, .int x2), (3, .int x3)] dX8_leftOut_63 (by decide) rfl ?_
      exact x_sub [1, 2, 3, 4, 0] rfl (w_X8_leftOut_65 C ih x_fuel x1 x2 x3 (0 : Int32) σ6 h)
set_option maxHeartbeats 4000000 in
set_option maxRecDepth 100000 in
theorem c_X8_leftOut (hG : x_OK TX G) {x1 : Int32} {x2 : Int32} {σ τ : x_Hp} {r : Int32} (h : F_X8_leftOut x1 x2 σ = some (r, τ)) : x_M l TX G yX8_leftOut cX8_leftOut 5 (some .int) rm_X8_leftOut [.ref (x_ad G 0), .int x1, .int x2] σ (some (.int r)) τ := by
  refine x_M.of hG (lv := [(0, .ref (x_ad G 0)), (1, .int x1), (2, .int x2)]) (by decide) (Nat.le_of_ble_eq_true rfl) rfl (fun p e s m below meth c C => ?_)
  rw [F_X8_leftOut] at h
  refine x_iload_n C 1 dX8_leftOut_0 rfl rfl ?_
  refine x_iconst C (1 : Int32) dX8_leftOut_1 (by decide) ?_
  refine x_bipush C (10 : Int32) dX8_leftOut_2 (by decide) ?_
  obtain ⟨v1, σ1, hc1, h⟩ := x_b_some h
  refine x_callS C (n := 3) (c_X8_between hG hc1) wd_835 wd_836 wd_102 wd_837 (by decide +kernel) rfl ⟨Nat.le_of_ble_eq_true rfl, Nat.le_of_ble_eq_true rfl⟩ ⟨rfl, rfl⟩ rfl (Nat.le_of_ble_eq_true rfl) dX8_leftOut_4 ?_
  refine x_if_eq C 19 dX8_leftOut_7 rfl (fun hc => ?_) (fun hc => ?_)
  · replace h := x_itp hc h
    refine x_iconst C (-1 : Int32) dX8_leftOut_19 (by decide) ?_
    obtain ⟨rfl, rfl⟩ := x_ret h
    exact x_iret C dX8_leftOut_20
  · replace h := x_itn hc h
    refine x_iload_n C 2 dX8_leftOut_10 rfl rfl ?_
    refine x_iconst C (0 : Int32) dX8_leftOut_11 (by decide) ?_
    refine x_iconst C (1 : Int32) dX8_leftOut_12 (by decide) ?_
    obtain ⟨v2, σ2, hc2, h⟩ := x_b_some h
    refine x_callS C (n := 3) (c_X8_between hG hc2) wd_835 wd_836 wd_102 wd_837 (by decide +kernel) rfl ⟨Nat.le_of_ble_eq_true rfl, Nat.le_of_ble_eq_true rfl⟩ ⟨rfl, rfl⟩ rfl (Nat.le_of_ble_eq_true rfl) dX8_leftOut_13 ?_
    refine x_if_ne C 21 dX8_leftOut_16 rfl (fun hc => ?_) (fun hc => ?_)
    · replace h := x_itn hc h
      refine x_aload_n C 0 dX8_leftOut_21 rfl rfl ?_
      obtain ⟨v3, σ3, hc3, h⟩ := x_b_some h
      refine x_callV C (n := 0) (c_X8_asleepOrAlone hG hc3) kX_0 (by decide) rfl wd_938 wd_940 wd_33 wd_102 wd_941 (by decide +kernel) rfl ⟨Nat.le_of_ble_eq_true rfl, Nat.le_of_ble_eq_true rfl⟩ ⟨rfl, rfl⟩ rfl (Nat.le_of_ble_eq_true rfl) dX8_leftOut_22 ?_
      refine x_if_eq C 31 dX8_leftOut_25 rfl (fun hc => ?_) (fun hc => ?_)
      · replace h := x_itp hc h
        refine x_aload_n C 0 dX8_leftOut_31 rfl rfl ?_
        refine x_getRq C (k := 9) kX_0 (by decide) rfl x_in8 (by decide) (by decide) rfl rfl wd_552 rfX_0_9 dX8_leftOut_32 ?_
        obtain ⟨v4, σ4, hc4, h⟩ := x_b_some h
        refine x_callV C (n := 0) (c_X2_begin hG kX_167 hc4) kX_167 (by decide) rfl wd_985 wd_986 wd_987 wd_110 wd_988 (by decide +kernel) rfl ⟨Nat.le_of_ble_eq_true rfl, Nat.le_of_ble_eq_true rfl⟩ ⟨rfl, rfl⟩ rfl (Nat.le_of_ble_eq_true rfl) dX8_leftOut_35 ?_
        refine x_iconst C (0 : Int32) dX8_leftOut_38 (by decide) ?_
        refine x_istore_n C [(3, .int (0 : Int32)), (0, .ref (x_ad G 0)), (1, .int x1), (2, .int x2)] dX8_leftOut_39 rfl (by decide) rfl ?_
        exact x_sub [1, 2, 3, 0] rfl (w_X8_leftOut_40 C x_fuel x1 x2 (0 : Int32) σ4 h)
      · replace h := x_itn hc h
        refine x_bipush C (-2 : Int32) dX8_leftOut_28 (by decide) ?_
        obtain ⟨rfl, rfl⟩ := x_ret h
        exact x_iret C dX8_leftOut_30
    · replace h := x_itp hc h
      refine x_iconst C (-1 : Int32) dX8_leftOut_19 (by decide) ?_
      obtain ⟨rfl, rfl⟩ := x_ret h
      exact x_iret C dX8_leftOut_20
abbrev rm_X8_bestRound : Room := { frames := 6, cells := 0, slots := 0, locals := 149 }
set_option maxHeartbeats 4000000 in
set_option maxRecDepth 100000 in
theorem w_X8_bestRound_48 {r : Int32} {τ : x_Hp} (C : x_C p s m args meth c cX8_bestRound 5 (some .int) yX8_bestRound.cls TX G) {k40 : Int32 → Int32 → Int32 → x_Hp → Option (Int32 × x_Hp)} (hk40 : ∀ (x1 : Int32) (x2 : Int32) (x3 : Int32) (σ : x_Hp) (h : k40 x1 x2 x3 σ = some (r, τ)), x_W p l e rm_X8_bestRound s m args below meth c (MQ below (x_Q TX G (some (.int r)) τ) args s 0 0 (x_A TX G)) TX G 5 40 [(0, .ref (x_ad G 0)), (1, .int x1), (2, .int x2), (3, .int x3)] [] σ) : ∀ (n : Nat) (x1 : Int32) (x2 : Int32) (x3 : Int32) (x4 : Int32) (σ : x_Hp) (h : F_X8_bestRound_48 k40 n x1 x2 x3 x4 σ = some (r, τ)), x_W p l e rm_X8_bestRound s m args below meth c (MQ below (x_Q TX G (some (.int r)) τ) args s 0 0 (x_A TX G)) TX G 5 48 [(0, .ref (x_ad G 0)), (1, .int x1), (2, .int x2), (3, .int x3), (4, .int x4)] [] σ := by
  intro n
  induction n with
  | zero => intro x1 x2 x3 x4 σ  h; cases h
  | succ n ih =>
    intro x1 x2 x3 x4 σ  h
    have hG : x_OK TX G := C.2.2.2.2.2.2.2.2.1
    rw [F_X8_bestRound_48] at h
    refine x_iload C 4 dX8_bestRound_48 rfl ?_
    refine x_bipush C (20 : Int32) dX8_bestRound_50 (by decide) ?_
    refine x_icmp_gt C 118 dX8_bestRound_52 rfl (fun hc => ?_) (fun hc => ?_)
    · replace h := x_itp hc h
      refine x_iinc C 3 (x3 + (1 : Int32)) [(3, .int (x3 + (1 : Int32))), (0, .ref (x_ad G 0)), (1, .int x1), (2, .int x2), (4, .int x4)] dX8_bestRound_118 rfl rfl (by decide) rfl ?_
      refine x_goto C 40 dX8_bestRound_121 rfl ?_
      exact x_sub [1, 2, 3, 0] rfl (hk40 x1 x2 (x3 + (1 : Int32)) σ h)
    · replace h := x_itn hc h
      refine x_aload_n C 0 dX8_bestRound_55 rfl rfl ?_
      refine x_getRq C (k := 4) kX_0 (by decide) rfl x_in8 (by decide) (by decide) rfl rfl wd_547 rfX_0_4 dX8_bestRound_56 ?_
      refine x_aload_n C 0 dX8_bestRound_59 rfl rfl ?_
      refine x_getRq C (k := 3) kX_0 (by decide) rfl x_in8 (by decide) (by decide) rfl rfl wd_546 rfX_0_3 dX8_bestRound_60 ?_
      obtain ⟨v5, σ5, hc5, h⟩ := x_b_some h
      refine x_callV C (n := 1) (c_X5_takeFrom hG kX_37 kX_35 hc5) kX_37 (by decide) rfl wd_971 wd_886 wd_887 wd_107 wd_888 (by decide +kernel) rfl ⟨Nat.le_of_ble_eq_true rfl, Nat.le_of_ble_eq_true rfl⟩ ⟨rfl, rfl⟩ rfl (Nat.le_of_ble_eq_true rfl) dX8_bestRound_63 ?_
      refine x_aload_n C 0 dX8_bestRound_66 rfl rfl ?_
      refine x_getRq C (k := 2) kX_0 (by decide) rfl x_in8 (by decide) (by decide) rfl rfl wd_545 rfX_0_2 dX8_bestRound_67 ?_
      refine x_aload_n C 0 dX8_bestRound_70 rfl rfl ?_
      refine x_getRq C (k := 4) kX_0 (by decide) rfl x_in8 (by decide) (by decide) rfl rfl wd_547 rfX_0_4 dX8_bestRound_71 ?_
      refine x_iload_n C 3 dX8_bestRound_74 rfl rfl ?_
      refine x_iload C 4 dX8_bestRound_75 rfl ?_
      refine x_iload_n C 1 dX8_bestRound_77 rfl rfl ?_
      obtain ⟨v6, σ6, hc6, h⟩ := x_b_some h
      refine x_callV C (n := 4) (c_X0_goByRule hG kX_34 kX_37 hc6) kX_34 (by decide) rfl wd_1080 wd_1081 wd_1082 wd_106 wd_1083 (by decide +kernel) rfl ⟨Nat.le_of_ble_eq_true rfl, Nat.le_of_ble_eq_true rfl⟩ ⟨rfl, rfl⟩ rfl (Nat.le_of_ble_eq_true rfl) dX8_bestRound_78 ?_
      refine x_aload_n C 0 dX8_bestRound_81 rfl rfl ?_
      refine x_getRq C (k := 9) kX_0 (by decide) rfl x_in8 (by decide) (by decide) rfl rfl wd_552 rfX_0_9 dX8_bestRound_82 ?_
      refine x_bipush C (100 : Int32) dX8_bestRound_85 (by decide) ?_
      refine x_iload_n C 3 dX8_bestRound_87 rfl rfl ?_
      refine x_imul C dX8_bestRound_88 ?_
      refine x_iload C 4 dX8_bestRound_89 rfl ?_
      refine x_iadd C dX8_bestRound_91 ?_
      refine x_aload_n C 0 dX8_bestRound_92 rfl rfl ?_
      refine x_getRq C (k := 4) kX_0 (by decide) rfl x_in8 (by decide) (by decide) rfl rfl wd_547 rfX_0_4 dX8_bestRound_93 ?_
      refine x_iconst C (1 : Int32) dX8_bestRound_96 (by decide) ?_
      obtain ⟨v7, σ7, hc7, h⟩ := x_b_some h
      refine x_callV C (n := 1) (c_X5_allTallied hG kX_37 hc7) kX_37 (by decide) rfl wd_1093 wd_977 wd_978 wd_107 wd_979 (by decide +kernel) rfl ⟨Nat.le_of_ble_eq_true rfl, Nat.le_of_ble_eq_true rfl⟩ ⟨rfl, rfl⟩ rfl (Nat.le_of_ble_eq_true rfl) dX8_bestRound_97 ?_
      refine x_aload_n C 0 dX8_bestRound_100 rfl rfl ?_
      refine x_getRq C (k := 3) kX_0 (by decide) rfl x_in8 (by decide) (by decide) rfl rfl wd_546 rfX_0_3 dX8_bestRound_101 ?_
      refine x_iconst C (1 : Int32) dX8_bestRound_104 (by decide) ?_
      obtain ⟨v8, σ8, hc8, h⟩ := x_b_some h
      refine x_callV C (n := 1) (c_X5_allTallied hG kX_35 hc8) kX_35 (by decide) rfl wd_1093 wd_977 wd_978 wd_107 wd_979 (by decide +kernel) rfl ⟨Nat.le_of_ble_eq_true rfl, Nat.le_of_ble_eq_true rfl⟩ ⟨rfl, rfl⟩ rfl (Nat.le_of_ble_eq_true rfl) dX8_bestRound_105 ?_
      refine x_isub C dX8_bestRound_108 ?_
      obtain ⟨v9, σ9, hc9, h⟩ := x_b_some h
      refine x_callV C (n := 2) (c_X2_offer hG kX_167 hc9) kX_167 (by decide) rfl wd_989 wd_990 wd_991 wd_110 wd_992 (by decide +kernel) rfl ⟨Nat.le_of_ble_eq_true rfl, Nat.le_of_ble_eq_true rfl⟩ ⟨rfl, rfl⟩ rfl (Nat.le_of_ble_eq_true rfl) dX8_bestRound_109 ?_
      refine x_iinc C 4 (x4 + (1 : Int32)) [(4, .int (x4 + (1 : Int32))), (0, .ref (x_ad G 0)), (1, .int x1), (2, .int x2), (3, .int x3)] dX8_bestRound_112 rfl rfl (by decide) rfl ?_
      refine x_goto C 48 dX8_bestRound_115 rfl ?_
      exact x_sub [1, 2, 3, 4, 0] rfl (ih x1 x2 x3 (x4 + (1 : Int32)) σ9 h)
set_option maxHeartbeats 4000000 in
set_option maxRecDepth 100000 in
theorem w_X8_bestRound_40 {r : Int32} {τ : x_Hp} (C : x_C p s m args meth c cX8_bestRound 5 (some .int) yX8_bestRound.cls TX G) : ∀ (n : Nat) (x1 : Int32) (x2 : Int32) (x3 : Int32) (σ : x_Hp) (h : F_X8_bestRound_40 n x1 x2 x3 σ = some (r, τ)), x_W p l e rm_X8_bestRound s m args below meth c (MQ below (x_Q TX G (some (.int r)) τ) args s 0 0 (x_A TX G)) TX G 5 40 [(0, .ref (x_ad G 0)), (1, .int x1), (2, .int x2), (3, .int x3)] [] σ := by
  intro n
  induction n with
  | zero => intro x1 x2 x3 σ  h; cases h
  | succ n ih =>
    intro x1 x2 x3 σ  h
    have hG : x_OK TX G := C.2.2.2.2.2.2.2.2.1
    rw [F_X8_bestRound_40] at h
    refine x_iload_n C 3 dX8_bestRound_40 rfl rfl ?_
    refine x_iconst C (4 : Int32) dX8_bestRound_41 (by decide) ?_
    refine x_icmp_ge C 124 dX8_bestRound_42 rfl (fun hc => ?_) (fun hc => ?_)
    · replace h := x_itp hc h
      refine x_aload_n C 0 dX8_bestRound_124 rfl rfl ?_
      refine x_getRq C (k := 9) kX_0 (by decide) rfl x_in8 (by decide) (by decide) rfl rfl wd_552 rfX_0_9 dX8_bestRound_125 ?_
      refine x_iload_n C 2 dX8_bestRound_128 rfl rfl ?_
      obtain ⟨v4, σ4, hc4, h⟩ := x_b_some h
      refine x_callV C (n := 1) (c_X2_pick hG kX_167 hc4) kX_167 (by decide) rfl wd_993 wd_994 wd_995 wd_110 wd_996 (by decide +kernel) rfl ⟨Nat.le_of_ble_eq_true rfl, Nat.le_of_ble_eq_true rfl⟩ ⟨rfl, rfl⟩ rfl (Nat.le_of_ble_eq_true rfl) dX8_bestRound_129 ?_
      obtain ⟨rfl, rfl⟩ := x_ret h
      exact x_iret C dX8_bestRound_132
    · replace h := x_itn hc h
      refine x_iconst C (1 : Int32) dX8_bestRound_45 (by decide) ?_
      refine x_istore C [(4, .int (1 : Int32)), (0, .ref (x_ad G 0)), (1, .int x1), (2, .int x2), (3, .int x3)] dX8_bestRound_46 (by decide) rfl ?_
      exact x_sub [1, 2, 3, 4, 0] rfl (w_X8_bestRound_48 C ih x_fuel x1 x2 x3 (1 : Int32) σ h)
set_option maxHeartbeats 4000000 in
set_option maxRecDepth 100000 in
theorem c_X8_bestRound (hG : x_OK TX G) {x1 : Int32} {x2 : Int32} {σ τ : x_Hp} {r : Int32} (h : F_X8_bestRound x1 x2 σ = some (r, τ)) : x_M l TX G yX8_bestRound cX8_bestRound 5 (some .int) rm_X8_bestRound [.ref (x_ad G 0), .int x1, .int x2] σ (some (.int r)) τ := by
  refine x_M.of hG (lv := [(0, .ref (x_ad G 0)), (1, .int x1), (2, .int x2)]) (by decide) (Nat.le_of_ble_eq_true rfl) rfl (fun p e s m below meth c C => ?_)
  rw [F_X8_bestRound] at h
  refine x_iload_n C 1 dX8_bestRound_0 rfl rfl ?_
  refine x_iconst C (1 : Int32) dX8_bestRound_1 (by decide) ?_
  refine x_bipush C (120 : Int32) dX8_bestRound_2 (by decide) ?_
  obtain ⟨v1, σ1, hc1, h⟩ := x_b_some h
  refine x_callS C (n := 3) (c_X8_between hG hc1) wd_835 wd_836 wd_102 wd_837 (by decide +kernel) rfl ⟨Nat.le_of_ble_eq_true rfl, Nat.le_of_ble_eq_true rfl⟩ ⟨rfl, rfl⟩ rfl (Nat.le_of_ble_eq_true rfl) dX8_bestRound_4 ?_
  refine x_if_eq C 29 dX8_bestRound_7 rfl (fun hc => ?_) (fun hc => ?_)
  · replace h := x_itp hc h
    refine x_iconst C (-1 : Int32) dX8_bestRound_29 (by decide) ?_
    obtain ⟨rfl, rfl⟩ := x_ret h
    exact x_iret C dX8_bestRound_30
  · replace h := x_itn hc h
    refine x_iload_n C 2 dX8_bestRound_10 rfl rfl ?_
    refine x_iconst C (0 : Int32) dX8_bestRound_11 (by decide) ?_
    refine x_iconst C (1 : Int32) dX8_bestRound_12 (by decide) ?_
    obtain ⟨v2, σ2, hc2, h⟩ := x_b_some h
    refine x_callS C (n := 3) (c_X8_between hG hc2) wd_835 wd_836 wd_102 wd_837 (by decide +kernel) rfl ⟨Nat.le_of_ble_eq_true rfl, Nat.le_of_ble_eq_true rfl⟩ ⟨rfl, rfl⟩ rfl (Nat.le_of_ble_eq_true rfl) dX8_bestRound_13 ?_
    refine x_if_eq C 29 dX8_bestRound_16 rfl (fun hc => ?_) (fun hc => ?_)
    · replace h := x_itp hc h
      refine x_iconst C (-1 : Int32) dX8_bestRound_29 (by decide) ?_
      obtain ⟨rfl, rfl⟩ := x_ret h
      exact x_iret C dX8_bestRound_30
    · replace h := x_itn hc h
      refine x_aload_n C 0 dX8_bestRound_19 rfl rfl ?_
      refine x_getRq C (k := 0) kX_0 (by decide) rfl x_in8 (by decide) (by decide) rfl rfl wd_543 rfX_0_0 dX8_bestRound_20 ?_
      refine x_getI C (k := 7) kX_1 (by decide) rfl x_in6 (by decide) (by decide) rfl rfl wd_187 dX8_bestRound_23 ?_
      refine x_if_ne C 31 dX8_bestRound_26 rfl (fun hc => ?_) (fun hc => ?_)
      · replace h := x_itn hc h
        refine x_aload_n C 0 dX8_bestRound_31 rfl rfl ?_
        refine x_getRq C (k := 9) kX_0 (by decide) rfl x_in8 (by decide) (by decide) rfl rfl wd_552 rfX_0_9 dX8_bestRound_32 ?_
        obtain ⟨v3, σ3, hc3, h⟩ := x_b_some h
        refine x_callV C (n := 0) (c_X2_begin hG kX_167 hc3) kX_167 (by decide) rfl wd_985 wd_986 wd_987 wd_110 wd_988 (by decide +kernel) rfl ⟨Nat.le_of_ble_eq_true rfl, Nat.le_of_ble_eq_true rfl⟩ ⟨rfl, rfl⟩ rfl (Nat.le_of_ble_eq_true rfl) dX8_bestRound_35 ?_
        refine x_iconst C (0 : Int32) dX8_bestRound_38 (by decide) ?_
        refine x_istore_n C [(3, .int (0 : Int32)), (0, .ref (x_ad G 0)), (1, .int x1), (2, .int x2)] dX8_bestRound_39 rfl (by decide) rfl ?_
        exact x_sub [1, 2, 3, 0] rfl (w_X8_bestRound_40 C x_fuel x1 x2 (0 : Int32) σ3 h)
      · replace h := x_itp hc h
        refine x_iconst C (-1 : Int32) dX8_bestRound_29 (by decide) ?_
        obtain ⟨rfl, rfl⟩ := x_ret h
        exact x_iret C dX8_bestRound_30
abbrev rm_X8_feedAt : Room := { frames := 6, cells := 0, slots := 0, locals := 147 }
set_option maxHeartbeats 4000000 in
set_option maxRecDepth 100000 in
theorem w_X8_feedAt_116 {r : Int32} {τ : x_Hp} (C : x_C p s m args meth c cX8_feedAt 5 (some .int) yX8_feedAt.cls TX G) {k40 : Int32 → Int32 → Int32 → x_Hp → Option (Int32 × x_Hp)} (hk40 : ∀ (x1 : Int32) (x2 : Int32) (x3 : Int32) (σ : x_Hp) (h : k40 x1 x2 x3 σ = some (r, τ)), x_W p l e rm_X8_feedAt s m args below meth c (MQ below (x_Q TX G (some (.int r)) τ) args s 0 0 (x_A TX G)) TX G 5 40 [(0, .ref (x_ad G 0)), (1, .int x1), (2, .int x2), (3, .int x3)] [] σ) (x1 : Int32) (x2 : Int32) (x3 : Int32) (σ : x_Hp) (h : F_X8_feedAt_116 k40 x1 x2 x3 σ = some (r, τ)) : x_W p l e rm_X8_feedAt s m args below meth c (MQ below (x_Q TX G (some (.int r)) τ) args s 0 0 (x_A TX G)) TX G 5 116 [(0, .ref (x_ad G 0)), (1, .int x1), (2, .int x2), (3, .int x3)] [] σ := by
  have hG : x_OK TX G := C.2.2.2.2.2.2.2.2.1
  rw [F_X8_feedAt_116] at h
  refine x_iinc C 3 (x3 + (1 : Int32)) [(3, .int (x3 + (1 : Int32))), (0, .ref (x_ad G 0)), (1, .int x1), (2, .int x2)] dX8_feedAt_116 rfl rfl (by decide) rfl ?_
  refine x_goto C 40 dX8_feedAt_119 rfl ?_
  exact x_sub [1, 2, 3, 0] rfl (hk40 x1 x2 (x3 + (1 : Int32)) σ h)
set_option maxHeartbeats 4000000 in
set_option maxRecDepth 100000 in
theorem w_X8_feedAt_40 {r : Int32} {τ : x_Hp} (C : x_C p s m args meth c cX8_feedAt 5 (some .int) yX8_feedAt.cls TX G) : ∀ (n : Nat) (x1 : Int32) (x2 : Int32) (x3 : Int32) (σ : x_Hp) (h : F_X8_feedAt_40 n x1 x2 x3 σ = some (r, τ)), x_W p l e rm_X8_feedAt s m args below meth c (MQ below (x_Q TX G (some (.int r)) τ) args s 0 0 (x_A TX G)) TX G 5 40 [(0, .ref (x_ad G 0)), (1, .int x1), (2, .int x2), (3, .int x3)] [] σ := by
  intro n
  induction n with
  | zero => intro x1 x2 x3 σ  h; cases h
  | succ n ih =>
    intro x1 x2 x3 σ  h
    have hG : x_OK TX G := C.2.2.2.2.2.2.2.2.1
    rw [F_X8_feedAt_40] at h
    refine x_iload_n C 3 dX8_feedAt_40 rfl rfl ?_
    refine x_iload_n C 1 dX8_feedAt_41 rfl rfl ?_
    refine x_icmp_ge C 122 dX8_feedAt_42 rfl (fun hc => ?_) (fun hc => ?_)
    · replace h := x_itp hc h
      refine x_aload_n C 0 dX8_feedAt_122 rfl rfl ?_
      refine x_getRq C (k := 9) kX_0 (by decide) rfl x_in8 (by decide) (by decide) rfl rfl wd_552 rfX_0_9 dX8_feedAt_123 ?_
      refine x_iload_n C 2 dX8_feedAt_126 rfl rfl ?_
      obtain ⟨v5, σ5, hc5, h⟩ := x_b_some h
      refine x_callV C (n := 1) (c_X2_pick hG kX_167 hc5) kX_167 (by decide) rfl wd_993 wd_994 wd_995 wd_110 wd_996 (by decide +kernel) rfl ⟨Nat.le_of_ble_eq_true rfl, Nat.le_of_ble_eq_true rfl⟩ ⟨rfl, rfl⟩ rfl (Nat.le_of_ble_eq_true rfl) dX8_feedAt_127 ?_
      obtain ⟨rfl, rfl⟩ := x_ret h
      exact x_iret C dX8_feedAt_130
    · replace h := x_itn hc h
      refine x_aload_n C 0 dX8_feedAt_45 rfl rfl ?_
      refine x_getRq C (k := 4) kX_0 (by decide) rfl x_in8 (by decide) (by decide) rfl rfl wd_547 rfX_0_4 dX8_feedAt_46 ?_
      refine x_aload_n C 0 dX8_feedAt_49 rfl rfl ?_
      refine x_getRq C (k := 3) kX_0 (by decide) rfl x_in8 (by decide) (by decide) rfl rfl wd_546 rfX_0_3 dX8_feedAt_50 ?_
      obtain ⟨v6, σ6, hc6, h⟩ := x_b_some h
      refine x_callV C (n := 1) (c_X5_takeFrom hG kX_37 kX_35 hc6) kX_37 (by decide) rfl wd_971 wd_886 wd_887 wd_107 wd_888 (by decide +kernel) rfl ⟨Nat.le_of_ble_eq_true rfl, Nat.le_of_ble_eq_true rfl⟩ ⟨rfl, rfl⟩ rfl (Nat.le_of_ble_eq_true rfl) dX8_feedAt_53 ?_
      refine x_aload_n C 0 dX8_feedAt_56 rfl rfl ?_
      refine x_getRq C (k := 2) kX_0 (by decide) rfl x_in8 (by decide) (by decide) rfl rfl wd_545 rfX_0_2 dX8_feedAt_57 ?_
      refine x_aload_n C 0 dX8_feedAt_60 rfl rfl ?_
      refine x_getRq C (k := 4) kX_0 (by decide) rfl x_in8 (by decide) (by decide) rfl rfl wd_547 rfX_0_4 dX8_feedAt_61 ?_
      refine x_iload_n C 3 dX8_feedAt_64 rfl rfl ?_
      obtain ⟨v7, σ7, hc7, h⟩ := x_b_some h
      refine x_callV C (n := 2) (c_X0_cried hG kX_34 kX_37 hc7) kX_34 (by decide) rfl wd_972 wd_973 wd_974 wd_106 wd_975 (by decide +kernel) rfl ⟨Nat.le_of_ble_eq_true rfl, Nat.le_of_ble_eq_true rfl⟩ ⟨rfl, rfl⟩ rfl (Nat.le_of_ble_eq_true rfl) dX8_feedAt_65 ?_
      refine x_istore C [(4, .int v7), (0, .ref (x_ad G 0)), (1, .int x1), (2, .int x2), (3, .int x3)] dX8_feedAt_68 (by decide) rfl ?_
      refine x_aload_n C 1 dX8_feedAt_70 rfl rfl ?_
      refine x_getRq C (k := 4) kX_0 (by decide) rfl x_in8 (by decide) (by decide) rfl rfl wd_547 rfX_0_4 dX8_feedAt_71 ?_
      refine x_getI C (k := 13) kX_37 (by decide) rfl x_in5 (by decide) (by decide) rfl rfl wd_344 dX8_feedAt_74 ?_
      refine x_if_ne C 116 dX8_feedAt_77 rfl (fun hc => ?_) (fun hc => ?_)
      · replace h := x_itn hc h
        exact x_sub [1, 2, 3, 4] rfl (w_X8_feedAt_116 C ih x1 x2 x3 σ7 h)
      · replace h := x_itp hc h
        refine x_aload_n C 1 dX8_feedAt_80 rfl rfl ?_
        refine x_getRq C (k := 2) kX_0 (by decide) rfl x_in8 (by decide) (by decide) rfl rfl wd_545 rfX_0_2 dX8_feedAt_81 ?_
        refine x_aload_n C 1 dX8_feedAt_84 rfl rfl ?_
        refine x_getRq C (k := 4) kX_0 (by decide) rfl x_in8 (by decide) (by decide) rfl rfl wd_547 rfX_0_4 dX8_feedAt_85 ?_
        obtain ⟨v8, σ8, hc8, h⟩ := x_b_some h
        refine x_callV C (n := 1) (c_X0_feedNow hG kX_34 kX_37 hc8) kX_34 (by decide) rfl wd_942 wd_943 wd_944 wd_106 wd_945 (by decide +kernel) rfl ⟨Nat.le_of_ble_eq_true rfl, Nat.le_of_ble_eq_true rfl⟩ ⟨rfl, rfl⟩ rfl (Nat.le_of_ble_eq_true rfl) dX8_feedAt_88 ?_
        refine x_aload_n C 1 dX8_feedAt_91 rfl rfl ?_
        refine x_getRq C (k := 9) kX_0 (by decide) rfl x_in8 (by decide) (by decide) rfl rfl wd_552 rfX_0_9 dX8_feedAt_92 ?_
        refine x_iload_n C 4 dX8_feedAt_95 rfl rfl ?_
        refine x_iload C 0 dX8_feedAt_96 rfl ?_
        refine x_aload_n C 1 dX8_feedAt_98 rfl rfl ?_
        refine x_getRq C (k := 2) kX_0 (by decide) rfl x_in8 (by decide) (by decide) rfl rfl wd_545 rfX_0_2 dX8_feedAt_99 ?_
        refine x_aload_n C 1 dX8_feedAt_102 rfl rfl ?_
        refine x_getRq C (k := 4) kX_0 (by decide) rfl x_in8 (by decide) (by decide) rfl rfl wd_547 rfX_0_4 dX8_feedAt_103 ?_
        refine x_iload_n C 2 dX8_feedAt_106 rfl rfl ?_
        refine x_iload_n C 4 dX8_feedAt_107 rfl rfl ?_
        refine x_isub C dX8_feedAt_108 ?_
        obtain ⟨v9, σ9, hc9, h⟩ := x_b_some h
        refine x_callV C (n := 2) (c_X0_cried hG kX_34 kX_37 hc9) kX_34 (by decide) rfl wd_972 wd_973 wd_974 wd_106 wd_975 (by decide +kernel) rfl ⟨Nat.le_of_ble_eq_true rfl, Nat.le_of_ble_eq_true rfl⟩ ⟨rfl, rfl⟩ rfl (Nat.le_of_ble_eq_true rfl) dX8_feedAt_109 ?_
        refine x_iadd C dX8_feedAt_112 ?_
        obtain ⟨v10, σ10, hc10, h⟩ := x_b_some h
        refine x_callV C (n := 2) (c_X2_offer hG kX_167 hc10) kX_167 (by decide) rfl wd_989 wd_990 wd_991 wd_110 wd_992 (by decide +kernel) rfl ⟨Nat.le_of_ble_eq_true rfl, Nat.le_of_ble_eq_true rfl⟩ ⟨rfl, rfl⟩ rfl (Nat.le_of_ble_eq_true rfl) dX8_feedAt_113 ?_
        exact x_sub [1, 2, 3, 4] rfl (w_X8_feedAt_116 C ih x1 x2 x3 σ10 h)
set_option maxHeartbeats 4000000 in
set_option maxRecDepth 100000 in
theorem c_X8_feedAt (hG : x_OK TX G) {x1 : Int32} {x2 : Int32} {σ τ : x_Hp} {r : Int32} (h : F_X8_feedAt x1 x2 σ = some (r, τ)) : x_M l TX G yX8_feedAt cX8_feedAt 5 (some .int) rm_X8_feedAt [.ref (x_ad G 0), .int x1, .int x2] σ (some (.int r)) τ := by
  refine x_M.of hG (lv := [(0, .ref (x_ad G 0)), (1, .int x1), (2, .int x2)]) (by decide) (Nat.le_of_ble_eq_true rfl) rfl (fun p e s m below meth c C => ?_)
  rw [F_X8_feedAt] at h
  refine x_iload_n C 1 dX8_feedAt_0 rfl rfl ?_
  refine x_iconst C (1 : Int32) dX8_feedAt_1 (by decide) ?_
  refine x_bipush C (60 : Int32) dX8_feedAt_2 (by decide) ?_
  obtain ⟨v1, σ1, hc1, h⟩ := x_b_some h
  refine x_callS C (n := 3) (c_X8_between hG hc1) wd_835 wd_836 wd_102 wd_837 (by decide +kernel) rfl ⟨Nat.le_of_ble_eq_true rfl, Nat.le_of_ble_eq_true rfl⟩ ⟨rfl, rfl⟩ rfl (Nat.le_of_ble_eq_true rfl) dX8_feedAt_4 ?_
  refine x_if_eq C 19 dX8_feedAt_7 rfl (fun hc => ?_) (fun hc => ?_)
  · replace h := x_itp hc h
    refine x_iconst C (-1 : Int32) dX8_feedAt_19 (by decide) ?_
    obtain ⟨rfl, rfl⟩ := x_ret h
    exact x_iret C dX8_feedAt_20
  · replace h := x_itn hc h
    refine x_iload_n C 2 dX8_feedAt_10 rfl rfl ?_
    refine x_iconst C (0 : Int32) dX8_feedAt_11 (by decide) ?_
    refine x_iconst C (1 : Int32) dX8_feedAt_12 (by decide) ?_
    obtain ⟨v2, σ2, hc2, h⟩ := x_b_some h
    refine x_callS C (n := 3) (c_X8_between hG hc2) wd_835 wd_836 wd_102 wd_837 (by decide +kernel) rfl ⟨Nat.le_of_ble_eq_true rfl, Nat.le_of_ble_eq_true rfl⟩ ⟨rfl, rfl⟩ rfl (Nat.le_of_ble_eq_true rfl) dX8_feedAt_13 ?_
    refine x_if_ne C 21 dX8_feedAt_16 rfl (fun hc => ?_) (fun hc => ?_)
    · replace h := x_itn hc h
      refine x_aload_n C 0 dX8_feedAt_21 rfl rfl ?_
      obtain ⟨v3, σ3, hc3, h⟩ := x_b_some h
      refine x_callV C (n := 0) (c_X8_asleepOrAlone hG hc3) kX_0 (by decide) rfl wd_938 wd_940 wd_33 wd_102 wd_941 (by decide +kernel) rfl ⟨Nat.le_of_ble_eq_true rfl, Nat.le_of_ble_eq_true rfl⟩ ⟨rfl, rfl⟩ rfl (Nat.le_of_ble_eq_true rfl) dX8_feedAt_22 ?_
      refine x_if_eq C 31 dX8_feedAt_25 rfl (fun hc => ?_) (fun hc => ?_)
      · replace h := x_itp hc h
        refine x_aload_n C 0 dX8_feedAt_31 rfl rfl ?_
        refine x_getRq C (k := 9) kX_0 (by decide) rfl x_in8 (by decide) (by decide) rfl rfl wd_552 rfX_0_9 dX8_feedAt_32 ?_
        obtain ⟨v4, σ4, hc4, h⟩ := x_b_some h
        refine x_callV C (n := 0) (c_X2_begin hG kX_167 hc4) kX_167 (by decide) rfl wd_985 wd_986 wd_987 wd_110 wd_988 (by decide +kernel) rfl ⟨Nat.le_of_ble_eq_true rfl, Nat.le_of_ble_eq_true rfl⟩ ⟨rfl, rfl⟩ rfl (Nat.le_of_ble_eq_true rfl) dX8_feedAt_35 ?_
        refine x_iconst C (0 : Int32) dX8_feedAt_38 (by decide) ?_
        refine x_istore_n C [(3, .int (0 : Int32)), (0, .ref (x_ad G 0)), (1, .int x1), (2, .int x2)] dX8_feedAt_39 rfl (by decide) rfl ?_
        exact x_sub [1, 2, 3, 0] rfl (w_X8_feedAt_40 C x_fuel x1 x2 (0 : Int32) σ4 h)
      · replace h := x_itn hc h
        refine x_bipush C (-2 : Int32) dX8_feedAt_28 (by decide) ?_
        obtain ⟨rfl, rfl⟩ := x_ret h
        exact x_iret C dX8_feedAt_30
    · replace h := x_itp hc h
      refine x_iconst C (-1 : Int32) dX8_feedAt_19 (by decide) ?_
      obtain ⟨rfl, rfl⟩ := x_ret h
      exact x_iret C dX8_feedAt_20
abbrev rm_X8_inSight : Room := { frames := 7, cells := 0, slots := 0, locals := 170 }
set_option maxHeartbeats 4000000 in
set_option maxRecDepth 100000 in
theorem w_X8_inSight_30 {r : Int32} {τ : x_Hp} (C : x_C p s m args meth c cX8_inSight 4 (some .int) yX8_inSight.cls TX G) : ∀ (n : Nat) (x1 : Int32) (x2 : Int32) (x3 : Int32) (σ : x_Hp) (h : F_X8_inSight_30 n x1 x2 x3 σ = some (r, τ)), x_W p l e rm_X8_inSight s m args below meth c (MQ below (x_Q TX G (some (.int r)) τ) args s 0 0 (x_A TX G)) TX G 4 30 [(0, .ref (x_ad G 0)), (1, .int x1), (2, .int x2), (3, .int x3)] [] σ := by
  intro n
  induction n with
  | zero => intro x1 x2 x3 σ  h; cases h
  | succ n ih =>
    intro x1 x2 x3 σ  h
    have hG : x_OK TX G := C.2.2.2.2.2.2.2.2.1
    rw [F_X8_inSight_30] at h
    refine x_iload_n C 3 dX8_inSight_30 rfl rfl ?_
    refine x_iload_n C 1 dX8_inSight_31 rfl rfl ?_
    refine x_icmp_gt C 55 dX8_inSight_32 rfl (fun hc => ?_) (fun hc => ?_)
    · replace h := x_itp hc h
      refine x_aload_n C 0 dX8_inSight_55 rfl rfl ?_
      refine x_getRq C (k := 9) kX_0 (by decide) rfl x_in8 (by decide) (by decide) rfl rfl wd_552 rfX_0_9 dX8_inSight_56 ?_
      refine x_iload_n C 2 dX8_inSight_59 rfl rfl ?_
      obtain ⟨v4, σ4, hc4, h⟩ := x_b_some h
      refine x_callV C (n := 1) (c_X2_pick hG kX_167 hc4) kX_167 (by decide) rfl wd_993 wd_994 wd_995 wd_110 wd_996 (by decide +kernel) rfl ⟨Nat.le_of_ble_eq_true rfl, Nat.le_of_ble_eq_true rfl⟩ ⟨rfl, rfl⟩ rfl (Nat.le_of_ble_eq_true rfl) dX8_inSight_60 ?_
      obtain ⟨rfl, rfl⟩ := x_ret h
      exact x_iret C dX8_inSight_63
    · replace h := x_itn hc h
      refine x_aload_n C 0 dX8_inSight_35 rfl rfl ?_
      refine x_getRq C (k := 9) kX_0 (by decide) rfl x_in8 (by decide) (by decide) rfl rfl wd_552 rfX_0_9 dX8_inSight_36 ?_
      refine x_iload_n C 3 dX8_inSight_39 rfl rfl ?_
      refine x_aload_n C 0 dX8_inSight_40 rfl rfl ?_
      refine x_iload_n C 3 dX8_inSight_41 rfl rfl ?_
      refine x_iload_n C 1 dX8_inSight_42 rfl rfl ?_
      obtain ⟨v5, σ5, hc5, h⟩ := x_b_some h
      refine x_callV C (n := 2) (c_X8_criedInSight hG hc5) kX_0 (by decide) rfl wd_1068 wd_1070 wd_41 wd_102 wd_1071 (by decide +kernel) rfl ⟨Nat.le_of_ble_eq_true rfl, Nat.le_of_ble_eq_true rfl⟩ ⟨rfl, rfl⟩ rfl (Nat.le_of_ble_eq_true rfl) dX8_inSight_43 ?_
      obtain ⟨v6, σ6, hc6, h⟩ := x_b_some h
      refine x_callV C (n := 2) (c_X2_offer hG kX_167 hc6) kX_167 (by decide) rfl wd_989 wd_990 wd_991 wd_110 wd_992 (by decide +kernel) rfl ⟨Nat.le_of_ble_eq_true rfl, Nat.le_of_ble_eq_true rfl⟩ ⟨rfl, rfl⟩ rfl (Nat.le_of_ble_eq_true rfl) dX8_inSight_46 ?_
      refine x_iinc C 3 (x3 + (1 : Int32)) [(3, .int (x3 + (1 : Int32))), (0, .ref (x_ad G 0)), (1, .int x1), (2, .int x2)] dX8_inSight_49 rfl rfl (by decide) rfl ?_
      refine x_goto C 30 dX8_inSight_52 rfl ?_
      exact x_sub [1, 2, 3, 0] rfl (ih x1 x2 (x3 + (1 : Int32)) σ6 h)
set_option maxHeartbeats 4000000 in
set_option maxRecDepth 100000 in
theorem c_X8_inSight (hG : x_OK TX G) {x1 : Int32} {x2 : Int32} {σ τ : x_Hp} {r : Int32} (h : F_X8_inSight x1 x2 σ = some (r, τ)) : x_M l TX G yX8_inSight cX8_inSight 4 (some .int) rm_X8_inSight [.ref (x_ad G 0), .int x1, .int x2] σ (some (.int r)) τ := by
  refine x_M.of hG (lv := [(0, .ref (x_ad G 0)), (1, .int x1), (2, .int x2)]) (by decide) (Nat.le_of_ble_eq_true rfl) rfl (fun p e s m below meth c C => ?_)
  rw [F_X8_inSight] at h
  refine x_iload_n C 1 dX8_inSight_0 rfl rfl ?_
  refine x_iconst C (1 : Int32) dX8_inSight_1 (by decide) ?_
  refine x_bipush C (60 : Int32) dX8_inSight_2 (by decide) ?_
  obtain ⟨v1, σ1, hc1, h⟩ := x_b_some h
  refine x_callS C (n := 3) (c_X8_between hG hc1) wd_835 wd_836 wd_102 wd_837 (by decide +kernel) rfl ⟨Nat.le_of_ble_eq_true rfl, Nat.le_of_ble_eq_true rfl⟩ ⟨rfl, rfl⟩ rfl (Nat.le_of_ble_eq_true rfl) dX8_inSight_4 ?_
  refine x_if_eq C 19 dX8_inSight_7 rfl (fun hc => ?_) (fun hc => ?_)
  · replace h := x_itp hc h
    refine x_iconst C (-1 : Int32) dX8_inSight_19 (by decide) ?_
    obtain ⟨rfl, rfl⟩ := x_ret h
    exact x_iret C dX8_inSight_20
  · replace h := x_itn hc h
    refine x_iload_n C 2 dX8_inSight_10 rfl rfl ?_
    refine x_iconst C (0 : Int32) dX8_inSight_11 (by decide) ?_
    refine x_iconst C (1 : Int32) dX8_inSight_12 (by decide) ?_
    obtain ⟨v2, σ2, hc2, h⟩ := x_b_some h
    refine x_callS C (n := 3) (c_X8_between hG hc2) wd_835 wd_836 wd_102 wd_837 (by decide +kernel) rfl ⟨Nat.le_of_ble_eq_true rfl, Nat.le_of_ble_eq_true rfl⟩ ⟨rfl, rfl⟩ rfl (Nat.le_of_ble_eq_true rfl) dX8_inSight_13 ?_
    refine x_if_ne C 21 dX8_inSight_16 rfl (fun hc => ?_) (fun hc => ?_)
    · replace h := x_itn hc h
      refine x_aload_n C 0 dX8_inSight_21 rfl rfl ?_
      refine x_getRq C (k := 9) kX_0 (by decide) rfl x_in8 (by decide) (by decide) rfl rfl wd_552 rfX_0_9 dX8_inSight_22 ?_
      obtain ⟨v3, σ3, hc3, h⟩ := x_b_some h
      refine x_callV C (n := 0) (c_X2_begin hG kX_167 hc3) kX_167 (by decide) rfl wd_985 wd_986 wd_987 wd_110 wd_988 (by decide +kernel) rfl ⟨Nat.le_of_ble_eq_true rfl, Nat.le_of_ble_eq_true rfl⟩ ⟨rfl, rfl⟩ rfl (Nat.le_of_ble_eq_true rfl) dX8_inSight_25 ?_
      refine x_iconst C (0 : Int32) dX8_inSight_28 (by decide) ?_
      refine x_istore_n C [(3, .int (0 : Int32)), (0, .ref (x_ad G 0)), (1, .int x1), (2, .int x2)] dX8_inSight_29 rfl (by decide) rfl ?_
      exact x_sub [1, 2, 3, 0] rfl (w_X8_inSight_30 C x_fuel x1 x2 (0 : Int32) σ3 h)
    · replace h := x_itp hc h
      refine x_iconst C (-1 : Int32) dX8_inSight_19 (by decide) ?_
      obtain ⟨rfl, rfl⟩ := x_ret h
      exact x_iret C dX8_inSight_20
abbrev rm_X8_peak : Room := { frames := 5, cells := 0, slots := 0, locals := 123 }
set_option maxHeartbeats 4000000 in
set_option maxRecDepth 100000 in
theorem w_X8_peak_81 {r : Int32} {τ : x_Hp} (C : x_C p s m args meth c cX8_peak 6 (some .int) yX8_peak.cls TX G) {k41 : Int32 → Int32 → Int32 → Int32 → Int32 → x_Hp → Option (Int32 × x_Hp)} (hk41 : ∀ (x1 : Int32) (x2 : Int32) (x3 : Int32) (x4 : Int32) (x5 : Int32) (σ : x_Hp) (h : k41 x1 x2 x3 x4 x5 σ = some (r, τ)), x_W p l e rm_X8_peak s m args below meth c (MQ below (x_Q TX G (some (.int r)) τ) args s 0 0 (x_A TX G)) TX G 6 41 [(0, .ref (x_ad G 0)), (1, .int x1), (2, .int x2), (3, .int x3), (4, .int x4), (5, .int x5)] [] σ) (x1 : Int32) (x2 : Int32) (x3 : Int32) (x4 : Int32) (x5 : Int32) (σ : x_Hp) (h : F_X8_peak_81 k41 x1 x2 x3 x4 x5 σ = some (r, τ)) : x_W p l e rm_X8_peak s m args below meth c (MQ below (x_Q TX G (some (.int r)) τ) args s 0 0 (x_A TX G)) TX G 6 81 [(0, .ref (x_ad G 0)), (1, .int x1), (2, .int x2), (3, .int x3), (4, .int x4), (5, .int x5)] [] σ := by
  have hG : x_OK TX G := C.2.2.2.2.2.2.2.2.1
  rw [F_X8_peak_81] at h
  refine x_iinc C 5 (x5 + (1 : Int32)) [(5, .int (x5 + (1 : Int32))), (0, .ref (x_ad G 0)), (1, .int x1), (2, .int x2), (3, .int x3), (4, .int x4)] dX8_peak_81 rfl rfl (by decide) rfl ?_
  refine x_goto C 41 dX8_peak_84 rfl ?_
  exact x_sub [1, 2, 3, 4, 5, 0] rfl (hk41 x1 x2 x3 x4 (x5 + (1 : Int32)) σ h)
set_option maxHeartbeats 4000000 in
set_option maxRecDepth 100000 in
theorem w_X8_peak_41 {r : Int32} {τ : x_Hp} (C : x_C p s m args meth c cX8_peak 6 (some .int) yX8_peak.cls TX G) : ∀ (n : Nat) (x1 : Int32) (x2 : Int32) (x3 : Int32) (x4 : Int32) (x5 : Int32) (σ : x_Hp) (h : F_X8_peak_41 n x1 x2 x3 x4 x5 σ = some (r, τ)), x_W p l e rm_X8_peak s m args below meth c (MQ below (x_Q TX G (some (.int r)) τ) args s 0 0 (x_A TX G)) TX G 6 41 [(0, .ref (x_ad G 0)), (1, .int x1), (2, .int x2), (3, .int x3), (4, .int x4), (5, .int x5)] [] σ := by
  intro n
  induction n with
  | zero => intro x1 x2 x3 x4 x5 σ  h; cases h
  | succ n ih =>
    intro x1 x2 x3 x4 x5 σ  h
    have hG : x_OK TX G := C.2.2.2.2.2.2.2.2.1
    rw [F_X8_peak_41] at h
    refine x_iload C 5 dX8_peak_41 rfl ?_
    refine x_iload_n C 1 dX8_peak_43 rfl rfl ?_
    refine x_icmp_ge C 87 dX8_peak_44 rfl (fun hc => ?_) (fun hc => ?_)
    · replace h := x_itp hc h
      refine x_iload_n C 2 dX8_peak_87 rfl rfl ?_
      refine x_if_ne C 95 dX8_peak_88 rfl (fun hc => ?_) (fun hc => ?_)
      · replace h := x_itn hc h
        refine x_iload C 4 dX8_peak_95 rfl ?_
        obtain ⟨rfl, rfl⟩ := x_ret h
        exact x_iret C dX8_peak_97
      · replace h := x_itp hc h
        refine x_iload_n C 3 dX8_peak_91 rfl rfl ?_
        refine x_goto C 97 dX8_peak_92 rfl ?_
        obtain ⟨rfl, rfl⟩ := x_ret h
        exact x_iret C dX8_peak_97
    · replace h := x_itn hc h
      refine x_aload_n C 0 dX8_peak_47 rfl rfl ?_
      refine x_getRq C (k := 2) kX_0 (by decide) rfl x_in8 (by decide) (by decide) rfl rfl wd_545 rfX_0_2 dX8_peak_48 ?_
      refine x_aload_n C 0 dX8_peak_51 rfl rfl ?_
      refine x_getRq C (k := 4) kX_0 (by decide) rfl x_in8 (by decide) (by decide) rfl rfl wd_547 rfX_0_4 dX8_peak_52 ?_
      obtain ⟨v4, σ4, hc4, h⟩ := x_b_some h
      refine x_callV C (n := 1) (c_X0_step hG kX_34 kX_37 hc4) kX_34 (by decide) rfl wd_1119 wd_896 wd_897 wd_106 wd_898 (by decide +kernel) rfl ⟨Nat.le_of_ble_eq_true rfl, Nat.le_of_ble_eq_true rfl⟩ ⟨rfl, rfl⟩ rfl (Nat.le_of_ble_eq_true rfl) dX8_peak_55 ?_
      refine x_aload_n C 0 dX8_peak_58 rfl rfl ?_
      refine x_getRq C (k := 4) kX_0 (by decide) rfl x_in8 (by decide) (by decide) rfl rfl wd_547 rfX_0_4 dX8_peak_59 ?_
      refine x_getI C (k := 12) kX_37 (by decide) rfl x_in5 (by decide) (by decide) rfl rfl wd_341 dX8_peak_62 ?_
      refine x_iload_n C 3 dX8_peak_65 rfl rfl ?_
      refine x_icmp_le C 81 dX8_peak_66 rfl (fun hc => ?_) (fun hc => ?_)
      · replace h := x_itp hc h
        exact x_sub [0, 1, 2, 3, 4, 5] rfl (w_X8_peak_81 C ih x1 x2 x3 x4 x5 σ4 h)
      · replace h := x_itn hc h
        refine x_aload_n C 0 dX8_peak_69 rfl rfl ?_
        refine x_getRq C (k := 4) kX_0 (by decide) rfl x_in8 (by decide) (by decide) rfl rfl wd_547 rfX_0_4 dX8_peak_70 ?_
        refine x_getI C (k := 12) kX_37 (by decide) rfl x_in5 (by decide) (by decide) rfl rfl wd_341 dX8_peak_73 ?_
        refine x_istore_n C [(3, .int (σ4.1 37 12)), (0, .ref (x_ad G 0)), (1, .int x1), (2, .int x2), (4, .int x4), (5, .int x5)] dX8_peak_76 rfl (by decide) rfl ?_
        refine x_iload C 5 dX8_peak_77 rfl ?_
        refine x_istore C [(4, .int x5), (3, .int (σ4.1 37 12)), (0, .ref (x_ad G 0)), (1, .int x1), (2, .int x2), (5, .int x5)] dX8_peak_79 (by decide) rfl ?_
        exact x_sub [2, 3, 4, 1, 0, 5] rfl (w_X8_peak_81 C ih x1 x2 (σ4.1 37 12) x5 x5 σ4 h)
set_option maxHeartbeats 4000000 in
set_option maxRecDepth 100000 in
theorem c_X8_peak (hG : x_OK TX G) {x1 : Int32} {x2 : Int32} {σ τ : x_Hp} {r : Int32} (h : F_X8_peak x1 x2 σ = some (r, τ)) : x_M l TX G yX8_peak cX8_peak 6 (some .int) rm_X8_peak [.ref (x_ad G 0), .int x1, .int x2] σ (some (.int r)) τ := by
  refine x_M.of hG (lv := [(0, .ref (x_ad G 0)), (1, .int x1), (2, .int x2)]) (by decide) (Nat.le_of_ble_eq_true rfl) rfl (fun p e s m below meth c C => ?_)
  rw [F_X8_peak] at h
  refine x_iload_n C 1 dX8_peak_0 rfl rfl ?_
  refine x_iconst C (1 : Int32) dX8_peak_1 (by decide) ?_
  refine x_sipush C (240 : Int32) dX8_peak_2 (by decide) ?_
  obtain ⟨v1, σ1, hc1, h⟩ := x_b_some h
  refine x_callS C (n := 3) (c_X8_between hG hc1) wd_835 wd_836 wd_102 wd_837 (by decide +kernel) rfl ⟨Nat.le_of_ble_eq_true rfl, Nat.le_of_ble_eq_true rfl⟩ ⟨rfl, rfl⟩ rfl (Nat.le_of_ble_eq_true rfl) dX8_peak_5 ?_
  refine x_if_eq C 20 dX8_peak_8 rfl (fun hc => ?_) (fun hc => ?_)
  · replace h := x_itp hc h
    refine x_iconst C (-1 : Int32) dX8_peak_20 (by decide) ?_
    obtain ⟨rfl, rfl⟩ := x_ret h
    exact x_iret C dX8_peak_21
  · replace h := x_itn hc h
    refine x_iload_n C 2 dX8_peak_11 rfl rfl ?_
    refine x_iconst C (0 : Int32) dX8_peak_12 (by decide) ?_
    refine x_iconst C (1 : Int32) dX8_peak_13 (by decide) ?_
    obtain ⟨v2, σ2, hc2, h⟩ := x_b_some h
    refine x_callS C (n := 3) (c_X8_between hG hc2) wd_835 wd_836 wd_102 wd_837 (by decide +kernel) rfl ⟨Nat.le_of_ble_eq_true rfl, Nat.le_of_ble_eq_true rfl⟩ ⟨rfl, rfl⟩ rfl (Nat.le_of_ble_eq_true rfl) dX8_peak_14 ?_
    refine x_if_ne C 22 dX8_peak_17 rfl (fun hc => ?_) (fun hc => ?_)
    · replace h := x_itn hc h
      refine x_aload_n C 0 dX8_peak_22 rfl rfl ?_
      refine x_getRq C (k := 4) kX_0 (by decide) rfl x_in8 (by decide) (by decide) rfl rfl wd_547 rfX_0_4 dX8_peak_23 ?_
      refine x_aload_n C 0 dX8_peak_26 rfl rfl ?_
      refine x_getRq C (k := 3) kX_0 (by decide) rfl x_in8 (by decide) (by decide) rfl rfl wd_546 rfX_0_3 dX8_peak_27 ?_
      obtain ⟨v3, σ3, hc3, h⟩ := x_b_some h
      refine x_callV C (n := 1) (c_X5_takeFrom hG kX_37 kX_35 hc3) kX_37 (by decide) rfl wd_971 wd_886 wd_887 wd_107 wd_888 (by decide +kernel) rfl ⟨Nat.le_of_ble_eq_true rfl, Nat.le_of_ble_eq_true rfl⟩ ⟨rfl, rfl⟩ rfl (Nat.le_of_ble_eq_true rfl) dX8_peak_30 ?_
      refine x_iconst C (-1 : Int32) dX8_peak_33 (by decide) ?_
      refine x_istore_n C [(3, .int (-1 : Int32)), (0, .ref (x_ad G 0)), (1, .int x1), (2, .int x2)] dX8_peak_34 rfl (by decide) rfl ?_
      refine x_iconst C (0 : Int32) dX8_peak_35 (by decide) ?_
      refine x_istore C [(4, .int (0 : Int32)), (3, .int (-1 : Int32)), (0, .ref (x_ad G 0)), (1, .int x1), (2, .int x2)] dX8_peak_36 (by decide) rfl ?_
      refine x_iconst C (0 : Int32) dX8_peak_38 (by decide) ?_
      refine x_istore C [(5, .int (0 : Int32)), (4, .int (0 : Int32)), (3, .int (-1 : Int32)), (0, .ref (x_ad G 0)), (1, .int x1), (2, .int x2)] dX8_peak_39 (by decide) rfl ?_
      exact x_sub [3, 4, 5, 2, 1, 0] rfl (w_X8_peak_41 C x_fuel x1 x2 (-1 : Int32) (0 : Int32) (0 : Int32) σ3 h)
    · replace h := x_itp hc h
      refine x_iconst C (-1 : Int32) dX8_peak_20 (by decide) ?_
      obtain ⟨rfl, rfl⟩ := x_ret h
      exact x_iret C dX8_peak_21
abbrev rm_X8_merry : Room := { frames := 5, cells := 0, slots := 0, locals := 123 }
set_option maxHeartbeats 4000000 in
set_option maxRecDepth 100000 in
theorem w_X8_merry_22 {r : Int32} {τ : x_Hp} (C : x_C p s m args meth c cX8_merry 3 (some .int) yX8_merry.cls TX G) : ∀ (n : Nat) (x1 : Int32) (x2 : Int32) (σ : x_Hp) (h : F_X8_merry_22 n x1 x2 σ = some (r, τ)), x_W p l e rm_X8_merry s m args below meth c (MQ below (x_Q TX G (some (.int r)) τ) args s 0 0 (x_A TX G)) TX G 3 22 [(0, .ref (x_ad G 0)), (1, .int x1), (2, .int x2)] [] σ := by
  intro n
  induction n with
  | zero => intro x1 x2 σ  h; cases h
  | succ n ih =>
    intro x1 x2 σ  h
    have hG : x_OK TX G := C.2.2.2.2.2.2.2.2.1
    rw [F_X8_merry_22] at h
    refine x_iload_n C 2 dX8_merry_22 rfl rfl ?_
    refine x_sipush C (240 : Int32) dX8_merry_23 (by decide) ?_
    refine x_icmp_gt C 60 dX8_merry_26 rfl (fun hc => ?_) (fun hc => ?_)
    · replace h := x_itp hc h
      refine x_bipush C (-2 : Int32) dX8_merry_60 (by decide) ?_
      obtain ⟨rfl, rfl⟩ := x_ret h
      exact x_iret C dX8_merry_62
    · replace h := x_itn hc h
      refine x_aload_n C 0 dX8_merry_29 rfl rfl ?_
      refine x_getRq C (k := 2) kX_0 (by decide) rfl x_in8 (by decide) (by decide) rfl rfl wd_545 rfX_0_2 dX8_merry_30 ?_
      refine x_aload_n C 0 dX8_merry_33 rfl rfl ?_
      refine x_getRq C (k := 4) kX_0 (by decide) rfl x_in8 (by decide) (by decide) rfl rfl wd_547 rfX_0_4 dX8_merry_34 ?_
      obtain ⟨v3, σ3, hc3, h⟩ := x_b_some h
      refine x_callV C (n := 1) (c_X0_step hG kX_34 kX_37 hc3) kX_34 (by decide) rfl wd_1119 wd_896 wd_897 wd_106 wd_898 (by decide +kernel) rfl ⟨Nat.le_of_ble_eq_true rfl, Nat.le_of_ble_eq_true rfl⟩ ⟨rfl, rfl⟩ rfl (Nat.le_of_ble_eq_true rfl) dX8_merry_37 ?_
      refine x_aload_n C 0 dX8_merry_40 rfl rfl ?_
      refine x_getRq C (k := 4) kX_0 (by decide) rfl x_in8 (by decide) (by decide) rfl rfl wd_547 rfX_0_4 dX8_merry_41 ?_
      refine x_iconst C (2 : Int32) dX8_merry_44 (by decide) ?_
      obtain ⟨v4, σ4, hc4, h⟩ := x_b_some h
      refine x_callV C (n := 1) (c_X5_allTallied hG kX_37 hc4) kX_37 (by decide) rfl wd_1093 wd_977 wd_978 wd_107 wd_979 (by decide +kernel) rfl ⟨Nat.le_of_ble_eq_true rfl, Nat.le_of_ble_eq_true rfl⟩ ⟨rfl, rfl⟩ rfl (Nat.le_of_ble_eq_true rfl) dX8_merry_45 ?_
      refine x_iload_n C 1 dX8_merry_48 rfl rfl ?_
      refine x_icmp_le C 54 dX8_merry_49 rfl (fun hc => ?_) (fun hc => ?_)
      · replace h := x_itp hc h
        refine x_iinc C 2 (x2 + (1 : Int32)) [(2, .int (x2 + (1 : Int32))), (0, .ref (x_ad G 0)), (1, .int x1)] dX8_merry_54 rfl rfl (by decide) rfl ?_
        refine x_goto C 22 dX8_merry_57 rfl ?_
        exact x_sub [1, 2, 0] rfl (ih x1 (x2 + (1 : Int32)) σ4 h)
      · replace h := x_itn hc h
        refine x_iload_n C 2 dX8_merry_52 rfl rfl ?_
        obtain ⟨rfl, rfl⟩ := x_ret h
        exact x_iret C dX8_merry_53
set_option maxHeartbeats 4000000 in
set_option maxRecDepth 100000 in
theorem c_X8_merry (hG : x_OK TX G) {σ τ : x_Hp} {r : Int32} (h : F_X8_merry σ = some (r, τ)) : x_M l TX G yX8_merry cX8_merry 3 (some .int) rm_X8_merry [.ref (x_ad G 0)] σ (some (.int r)) τ := by
  refine x_M.of hG (lv := [(0, .ref (x_ad G 0))]) (by decide) (Nat.le_of_ble_eq_true rfl) rfl (fun p e s m below meth c C => ?_)
  rw [F_X8_merry] at h
  refine x_aload_n C 0 dX8_merry_0 rfl rfl ?_
  refine x_getRq C (k := 4) kX_0 (by decide) rfl x_in8 (by decide) (by decide) rfl rfl wd_547 rfX_0_4 dX8_merry_1 ?_
  refine x_aload_n C 0 dX8_merry_4 rfl rfl ?_
  refine x_getRq C (k := 3) kX_0 (by decide) rfl x_in8 (by decide) (by decide) rfl rfl wd_546 rfX_0_3 dX8_merry_5 ?_
  obtain ⟨v1, σ1, hc1, h⟩ := x_b_some h
  refine x_callV C (n := 1) (c_X5_takeFrom hG kX_37 kX_35 hc1) kX_37 (by decide) rfl wd_971 wd_886 wd_887 wd_107 wd_888 (by decide +kernel) rfl ⟨Nat.le_of_ble_eq_true rfl, Nat.le_of_ble_eq_true rfl⟩ ⟨rfl, rfl⟩ rfl (Nat.le_of_ble_eq_true rfl) dX8_merry_8 ?_
  refine x_aload_n C 0 dX8_merry_11 rfl rfl ?_
  refine x_getRq C (k := 3) kX_0 (by decide) rfl x_in8 (by decide) (by decide) rfl rfl wd_546 rfX_0_3 dX8_merry_12 ?_
  refine x_iconst C (2 : Int32) dX8_merry_15 (by decide) ?_
  obtain ⟨v2, σ2, hc2, h⟩ := x_b_some h
  refine x_callV C (n := 1) (c_X5_allTallied hG kX_35 hc2) kX_35 (by decide) rfl wd_1093 wd_977 wd_978 wd_107 wd_979 (by decide +kernel) rfl ⟨Nat.le_of_ble_eq_true rfl, Nat.le_of_ble_eq_true rfl⟩ ⟨rfl, rfl⟩ rfl (Nat.le_of_ble_eq_true rfl) dX8_merry_16 ?_
  refine x_istore_n C [(1, .int v2), (0, .ref (x_ad G 0))] dX8_merry_19 rfl (by decide) rfl ?_
  refine x_iconst C (1 : Int32) dX8_merry_20 (by decide) ?_
  refine x_istore_n C [(2, .int (1 : Int32)), (1, .int v2), (0, .ref (x_ad G 0))] dX8_merry_21 rfl (by decide) rfl ?_
  exact x_sub [2, 1, 0] rfl (w_X8_merry_22 C x_fuel v2 (1 : Int32) σ2 h)
abbrev rm_X8_isAtRest : Room := { frames := 1, cells := 0, slots := 0, locals := 21 }
set_option maxHeartbeats 4000000 in
set_option maxRecDepth 100000 in
theorem w_X8_isAtRest_2 {r : Int32} {τ : x_Hp} (C : x_C p s m args meth c cX8_isAtRest 4 (some .boolean) yX8_isAtRest.cls TX G) : ∀ (n : Nat) (x1 : Int32) (x2 : Int32) (σ : x_Hp) (h : F_X8_isAtRest_2 n x1 x2 σ = some (r, τ)), x_W p l e rm_X8_isAtRest s m args below meth c (MQ below (x_Q TX G (some (.int r)) τ) args s 0 0 (x_A TX G)) TX G 4 2 [(0, .ref (x_ad G 0)), (1, .int x1), (2, .int x2)] [] σ := by
  intro n
  induction n with
  | zero => intro x1 x2 σ  h; cases h
  | succ n ih =>
    intro x1 x2 σ  h
    have hG : x_OK TX G := C.2.2.2.2.2.2.2.2.1
    rw [F_X8_isAtRest_2] at h
    refine x_iload_n C 2 dX8_isAtRest_2 rfl rfl ?_
    refine x_aload_n C 0 dX8_isAtRest_3 rfl rfl ?_
    refine x_getRq C (k := 0) kX_0 (by decide) rfl x_in8 (by decide) (by decide) rfl rfl wd_543 rfX_0_0 dX8_isAtRest_4 ?_
    refine x_getI C (k := 7) kX_1 (by decide) rfl x_in6 (by decide) (by decide) rfl rfl wd_187 dX8_isAtRest_7 ?_
    refine x_icmp_ge C 56 dX8_isAtRest_10 rfl (fun hc => ?_) (fun hc => ?_)
    · replace h := x_itp hc h
      refine x_iconst C (1 : Int32) dX8_isAtRest_56 (by decide) ?_
      obtain ⟨rfl, rfl⟩ := x_ret h
      exact x_zret C rfl dX8_isAtRest_57
    · replace h := x_itn hc h
      refine x_iload_n C 1 dX8_isAtRest_13 rfl rfl ?_
      refine x_iconst C (1 : Int32) dX8_isAtRest_14 (by decide) ?_
      refine x_iload_n C 2 dX8_isAtRest_15 rfl rfl ?_
      refine x_ishl C dX8_isAtRest_16 ?_
      refine x_ixor C dX8_isAtRest_17 ?_
      refine x_istore_n C [(3, .int (x1 ^^^ ((1 : Int32) <<< (x2 &&& 31)))), (0, .ref (x_ad G 0)), (1, .int x1), (2, .int x2)] dX8_isAtRest_18 rfl (by decide) rfl ?_
      refine x_aload_n C 1 dX8_isAtRest_19 rfl rfl ?_
      refine x_getRq C (k := 10) kX_0 (by decide) rfl x_in8 (by decide) (by decide) rfl rfl wd_553 rfX_0_10 dX8_isAtRest_20 ?_
      refine x_iload_n C 0 dX8_isAtRest_23 rfl rfl ?_
      refine x_bipush C (6 : Int32) dX8_isAtRest_24 (by decide) ?_
      refine x_imul C dX8_isAtRest_26 ?_
      refine x_iload_n C 3 dX8_isAtRest_27 rfl rfl ?_
      refine x_iadd C dX8_isAtRest_28 ?_
      obtain ⟨v1, σ1, hc1, h⟩ := x_b_some h
      refine x_callS C (n := 2) (c_X8_at hG kX_168 hc1) wd_838 wd_541 wd_102 wd_542 (by decide +kernel) rfl ⟨Nat.le_of_ble_eq_true rfl, Nat.le_of_ble_eq_true rfl⟩ ⟨rfl, rfl⟩ rfl (Nat.le_of_ble_eq_true rfl) dX8_isAtRest_29 ?_
      refine x_aload_n C 1 dX8_isAtRest_32 rfl rfl ?_
      refine x_getRq C (k := 10) kX_0 (by decide) rfl x_in8 (by decide) (by decide) rfl rfl wd_553 rfX_0_10 dX8_isAtRest_33 ?_
      refine x_iload_n C 2 dX8_isAtRest_36 rfl rfl ?_
      refine x_bipush C (6 : Int32) dX8_isAtRest_37 (by decide) ?_
      refine x_imul C dX8_isAtRest_39 ?_
      refine x_iload_n C 3 dX8_isAtRest_40 rfl rfl ?_
      refine x_iadd C dX8_isAtRest_41 ?_
      obtain ⟨v2, σ2, hc2, h⟩ := x_b_some h
      refine x_callS C (n := 2) (c_X8_at hG kX_168 hc2) wd_838 wd_541 wd_102 wd_542 (by decide +kernel) rfl ⟨Nat.le_of_ble_eq_true rfl, Nat.le_of_ble_eq_true rfl⟩ ⟨rfl, rfl⟩ rfl (Nat.le_of_ble_eq_true rfl) dX8_isAtRest_42 ?_
      refine x_icmp_le C 50 dX8_isAtRest_45 rfl (fun hc => ?_) (fun hc => ?_)
      · replace h := x_itp hc h
        refine x_iinc C 3 (x2 + (1 : Int32)) [(2, .int (x2 + (1 : Int32))), (3, .int (x1 ^^^ ((1 : Int32) <<< (x2 &&& 31)))), (0, .ref (x_ad G 0)), (1, .int x1)] dX8_isAtRest_50 rfl rfl (by decide) rfl ?_
        refine x_goto C 2 dX8_isAtRest_53 rfl ?_
        exact x_sub [2, 3, 0] rfl (ih x1 (x2 + (1 : Int32)) σ2 h)
      · replace h := x_itn hc h
        refine x_iconst C (0 : Int32) dX8_isAtRest_48 (by decide) ?_
        obtain ⟨rfl, rfl⟩ := x_ret h
        exact x_zret C rfl dX8_isAtRest_49
set_option maxHeartbeats 4000000 in
set_option maxRecDepth 100000 in
theorem c_X8_isAtRest (hG : x_OK TX G) {x1 : Int32} {σ τ : x_Hp} {r : Int32} (h : F_X8_isAtRest x1 σ = some (r, τ)) : x_M l TX G yX8_isAtRest cX8_isAtRest 4 (some .boolean) rm_X8_isAtRest [.ref (x_ad G 0), .int x1] σ (some (.int r)) τ := by
  refine x_M.of hG (lv := [(0, .ref (x_ad G 0)), (1, .int x1)]) (by decide) (Nat.le_of_ble_eq_true rfl) rfl (fun p e s m below meth c C => ?_)
  rw [F_X8_isAtRest] at h
  refine x_iconst C (0 : Int32) dX8_isAtRest_0 (by decide) ?_
  refine x_istore_n C [(2, .int (0 : Int32)), (0, .ref (x_ad G 0)), (1, .int x1)] dX8_isAtRest_1 rfl (by decide) rfl ?_
  exact x_sub [1, 2, 0] rfl (w_X8_isAtRest_2 C x_fuel x1 (0 : Int32) σ h)
abbrev rm_X8_laughInSet : Room := { frames := 6, cells := 0, slots := 0, locals := 148 }
set_option maxHeartbeats 4000000 in
set_option maxRecDepth 100000 in
theorem w_X8_laughInSet_59 {τ : x_Hp} (C : x_C p s m args meth c cX8_laughInSet 5 none yX8_laughInSet.cls TX G) {k22 : Int32 → Int32 → Int32 → Int32 → x_Hp → Option (Unit × x_Hp)} (hk22 : ∀ (x1 : Int32) (x2 : Int32) (x3 : Int32) (x4 : Int32) (σ : x_Hp) (h : k22 x1 x2 x3 x4 σ = some ((), τ)), x_W p l e rm_X8_laughInSet s m args below meth c (MQ below (x_Q TX G none τ) args s 0 0 (x_A TX G)) TX G 5 22 [(0, .ref (x_ad G 0)), (1, .int x1), (2, .int x2), (3, .int x3), (4, .int x4)] [] σ) (x1 : Int32) (x2 : Int32) (x3 : Int32) (x4 : Int32) (s0 : Int32) (s1 : Int32) (σ : x_Hp) (h : F_X8_laughInSet_59 k22 x1 x2 x3 x4 s0 s1 σ = some ((), τ)) : x_W p l e rm_X8_laughInSet s m args below meth c (MQ below (x_Q TX G none τ) args s 0 0 (x_A TX G)) TX G 5 59 [(0, .ref (x_ad G 0)), (1, .int x1), (2, .int x2), (3, .int x3), (4, .int x4)] [.int s0, .int s1, .ref (x_ad G 37), .ref (x_ad G 34)] σ := by
  have hG : x_OK TX G := C.2.2.2.2.2.2.2.2.1
  rw [F_X8_laughInSet_59] at h
  obtain ⟨v2, σ2, hc2, h⟩ := x_b_some h
  refine x_callV C (n := 3) (c_X0_keep hG kX_34 kX_37 hc2) kX_34 (by decide) rfl wd_1102 wd_1018 wd_1019 wd_106 wd_1020 (by decide +kernel) rfl ⟨Nat.le_of_ble_eq_true rfl, Nat.le_of_ble_eq_true rfl⟩ ⟨rfl, rfl⟩ rfl (Nat.le_of_ble_eq_true rfl) dX8_laughInSet_59 ?_
  refine x_aload_n C 0 dX8_laughInSet_62 rfl rfl ?_
  refine x_getRq C (k := 10) kX_0 (by decide) rfl x_in8 (by decide) (by decide) rfl rfl wd_553 rfX_0_10 dX8_laughInSet_63 ?_
  refine x_iload_n C 1 dX8_laughInSet_66 rfl rfl ?_
  refine x_bipush C (6 : Int32) dX8_laughInSet_67 (by decide) ?_
  refine x_imul C dX8_laughInSet_69 ?_
  refine x_iload_n C 3 dX8_laughInSet_70 rfl rfl ?_
  refine x_iadd C dX8_laughInSet_71 ?_
  refine x_aload_n C 0 dX8_laughInSet_72 rfl rfl ?_
  refine x_getRq C (k := 4) kX_0 (by decide) rfl x_in8 (by decide) (by decide) rfl rfl wd_547 rfX_0_4 dX8_laughInSet_73 ?_
  refine x_iload_n C 3 dX8_laughInSet_76 rfl rfl ?_
  refine x_iconst C (2 : Int32) dX8_laughInSet_77 (by decide) ?_
  obtain ⟨v3, σ3, hc3, h⟩ := x_b_some h
  refine x_callV C (n := 2) (c_X5_tallied hG kX_37 hc3) kX_37 (by decide) rfl wd_839 wd_840 wd_841 wd_107 wd_842 (by decide +kernel) rfl ⟨Nat.le_of_ble_eq_true rfl, Nat.le_of_ble_eq_true rfl⟩ ⟨rfl, rfl⟩ rfl (Nat.le_of_ble_eq_true rfl) dX8_laughInSet_78 ?_
  refine x_aload_n C 0 dX8_laughInSet_81 rfl rfl ?_
  refine x_getRq C (k := 3) kX_0 (by decide) rfl x_in8 (by decide) (by decide) rfl rfl wd_546 rfX_0_3 dX8_laughInSet_82 ?_
  refine x_iload_n C 3 dX8_laughInSet_85 rfl rfl ?_
  refine x_iconst C (2 : Int32) dX8_laughInSet_86 (by decide) ?_
  obtain ⟨v4, σ4, hc4, h⟩ := x_b_some h
  refine x_callV C (n := 2) (c_X5_tallied hG kX_35 hc4) kX_35 (by decide) rfl wd_839 wd_840 wd_841 wd_107 wd_842 (by decide +kernel) rfl ⟨Nat.le_of_ble_eq_true rfl, Nat.le_of_ble_eq_true rfl⟩ ⟨rfl, rfl⟩ rfl (Nat.le_of_ble_eq_true rfl) dX8_laughInSet_87 ?_
  refine x_isub C dX8_laughInSet_90 ?_
  obtain ⟨v5, σ5, hc5, h⟩ := x_b_some h
  refine x_callS C (n := 3) (c_X8_put hG kX_168 hc5) wd_817 wd_522 wd_102 wd_523 (by decide +kernel) rfl ⟨Nat.le_of_ble_eq_true rfl, Nat.le_of_ble_eq_true rfl⟩ ⟨rfl, rfl⟩ rfl (Nat.le_of_ble_eq_true rfl) dX8_laughInSet_91 ?_
  refine x_aload_n C 0 dX8_laughInSet_94 rfl rfl ?_
  refine x_getRq C (k := 2) kX_0 (by decide) rfl x_in8 (by decide) (by decide) rfl rfl wd_545 rfX_0_2 dX8_laughInSet_95 ?_
  refine x_iload_n C 3 dX8_laughInSet_98 rfl rfl ?_
  obtain ⟨v6, σ6, hc6, h⟩ := x_b_some h
  refine x_callV C (n := 1) (c_X0_behind hG kX_34 hc6) kX_34 (by decide) rfl wd_1132 wd_1085 wd_1086 wd_106 wd_1087 (by decide +kernel) rfl ⟨Nat.le_of_ble_eq_true rfl, Nat.le_of_ble_eq_true rfl⟩ ⟨rfl, rfl⟩ rfl (Nat.le_of_ble_eq_true rfl) dX8_laughInSet_99 ?_
  refine x_istore_n C [(3, .int v6), (0, .ref (x_ad G 0)), (1, .int x1), (2, .int x2), (4, .int x4)] dX8_laughInSet_102 rfl (by decide) rfl ?_
  refine x_iinc C 4 (x4 + (1 : Int32)) [(4, .int (x4 + (1 : Int32))), (3, .int v6), (0, .ref (x_ad G 0)), (1, .int x1), (2, .int x2)] dX8_laughInSet_103 rfl rfl (by decide) rfl ?_
  refine x_goto C 22 dX8_laughInSet_106 rfl ?_
  exact x_sub [2, 3, 4, 1, 0] rfl (hk22 x1 x2 v6 (x4 + (1 : Int32)) σ6 h)
set_option maxHeartbeats 4000000 in
set_option maxRecDepth 100000 in
theorem w_X8_laughInSet_22 {τ : x_Hp} (C : x_C p s m args meth c cX8_laughInSet 5 none yX8_laughInSet.cls TX G) : ∀ (n : Nat) (x1 : Int32) (x2 : Int32) (x3 : Int32) (x4 : Int32) (σ : x_Hp) (h : F_X8_laughInSet_22 n x1 x2 x3 x4 σ = some ((), τ)), x_W p l e rm_X8_laughInSet s m args below meth c (MQ below (x_Q TX G none τ) args s 0 0 (x_A TX G)) TX G 5 22 [(0, .ref (x_ad G 0)), (1, .int x1), (2, .int x2), (3, .int x3), (4, .int x4)] [] σ := by
  intro n
  induction n with
  | zero => intro x1 x2 x3 x4 σ  h; cases h
  | succ n ih =>
    intro x1 x2 x3 x4 σ  h
    have hG : x_OK TX G := C.2.2.2.2.2.2.2.2.1
    rw [F_X8_laughInSet_22] at h
    refine x_iload C 4 dX8_laughInSet_22 rfl ?_
    refine x_aload_n C 0 dX8_laughInSet_24 rfl rfl ?_
    refine x_getRq C (k := 0) kX_0 (by decide) rfl x_in8 (by decide) (by decide) rfl rfl wd_543 rfX_0_0 dX8_laughInSet_25 ?_
    refine x_getI C (k := 7) kX_1 (by decide) rfl x_in6 (by decide) (by decide) rfl rfl wd_187 dX8_laughInSet_28 ?_
    refine x_icmp_ge C 109 dX8_laughInSet_31 rfl (fun hc => ?_) (fun hc => ?_)
    · replace h := x_itp hc h
      obtain ⟨-, rfl⟩ := x_ret h
      exact x_vret C dX8_laughInSet_109
    · replace h := x_itn hc h
      refine x_aload_n C 0 dX8_laughInSet_34 rfl rfl ?_
      refine x_getRq C (k := 2) kX_0 (by decide) rfl x_in8 (by decide) (by decide) rfl rfl wd_545 rfX_0_2 dX8_laughInSet_35 ?_
      refine x_aload_n C 0 dX8_laughInSet_38 rfl rfl ?_
      refine x_getRq C (k := 4) kX_0 (by decide) rfl x_in8 (by decide) (by decide) rfl rfl wd_547 rfX_0_4 dX8_laughInSet_39 ?_
      refine x_iload_n C 3 dX8_laughInSet_42 rfl rfl ?_
      refine x_iload_n C 1 dX8_laughInSet_43 rfl rfl ?_
      refine x_iload_n C 3 dX8_laughInSet_44 rfl rfl ?_
      refine x_ishr C dX8_laughInSet_45 ?_
      refine x_iconst C (1 : Int32) dX8_laughInSet_46 (by decide) ?_
      refine x_iand C dX8_laughInSet_47 ?_
      refine x_iconst C (1 : Int32) dX8_laughInSet_48 (by decide) ?_
      refine x_icmp_ne C 58 dX8_laughInSet_49 rfl (fun hc => ?_) (fun hc => ?_)
      · replace h := x_itn hc h
        refine x_iload_n C 2 dX8_laughInSet_58 rfl rfl ?_
        exact x_sub [0, 1, 2, 3, 4] rfl (w_X8_laughInSet_59 C ih x1 x2 x3 x4 x2 x3 σ h)
      · replace h := x_itp hc h
        refine x_iconst C (2 : Int32) dX8_laughInSet_52 (by decide) ?_
        refine x_iload_n C 2 dX8_laughInSet_53 rfl rfl ?_
        refine x_imul C dX8_laughInSet_54 ?_
        refine x_goto C 59 dX8_laughInSet_55 rfl ?_
        exact x_sub [0, 1, 2, 3, 4] rfl (w_X8_laughInSet_59 C ih x1 x2 x3 x4 ((2 : Int32) * x2) x3 σ h)
set_option maxHeartbeats 4000000 in
set_option maxRecDepth 100000 in
theorem c_X8_laughInSet (hG : x_OK TX G) {x1 : Int32} {x2 : Int32} {σ τ : x_Hp} (h : F_X8_laughInSet x1 x2 σ = some ((), τ)) : x_M l TX G yX8_laughInSet cX8_laughInSet 5 none rm_X8_laughInSet [.ref (x_ad G 0), .int x1, .int x2] σ none τ := by
  refine x_M.of hG (lv := [(0, .ref (x_ad G 0)), (1, .int x1), (2, .int x2)]) (by decide) (Nat.le_of_ble_eq_true rfl) rfl (fun p e s m below meth c C => ?_)
  rw [F_X8_laughInSet] at h
  refine x_aload_n C 0 dX8_laughInSet_0 rfl rfl ?_
  refine x_getRq C (k := 4) kX_0 (by decide) rfl x_in8 (by decide) (by decide) rfl rfl wd_547 rfX_0_4 dX8_laughInSet_1 ?_
  refine x_aload_n C 0 dX8_laughInSet_4 rfl rfl ?_
  refine x_getRq C (k := 3) kX_0 (by decide) rfl x_in8 (by decide) (by decide) rfl rfl wd_546 rfX_0_3 dX8_laughInSet_5 ?_
  obtain ⟨v1, σ1, hc1, h⟩ := x_b_some h
  refine x_callV C (n := 1) (c_X5_takeFrom hG kX_37 kX_35 hc1) kX_37 (by decide) rfl wd_971 wd_886 wd_887 wd_107 wd_888 (by decide +kernel) rfl ⟨Nat.le_of_ble_eq_true rfl, Nat.le_of_ble_eq_true rfl⟩ ⟨rfl, rfl⟩ rfl (Nat.le_of_ble_eq_true rfl) dX8_laughInSet_8 ?_
  refine x_aload_n C 0 dX8_laughInSet_11 rfl rfl ?_
  refine x_getRq C (k := 3) kX_0 (by decide) rfl x_in8 (by decide) (by decide) rfl rfl wd_546 rfX_0_3 dX8_laughInSet_12 ?_
  refine x_getI C (k := 9) kX_35 (by decide) rfl x_in5 (by decide) (by decide) rfl rfl wd_332 dX8_laughInSet_15 ?_
  refine x_istore_n C [(3, .int (σ1.1 35 9)), (0, .ref (x_ad G 0)), (1, .int x1), (2, .int x2)] dX8_laughInSet_18 rfl (by decide) rfl ?_
  refine x_iconst C (0 : Int32) dX8_laughInSet_19 (by decide) ?_
  refine x_istore C [(4, .int (0 : Int32)), (3, .int (σ1.1 35 9)), (0, .ref (x_ad G 0)), (1, .int x1), (2, .int x2)] dX8_laughInSet_20 (by decide) rfl ?_
  exact x_sub [2, 3, 4, 1, 0] rfl (w_X8_laughInSet_22 C x_fuel x1 x2 (σ1.1 35 9) (0 : Int32) σ1 h)
abbrev rm_X8_rests : Room := { frames := 7, cells := 0, slots := 0, locals := 172 }
set_option maxHeartbeats 4000000 in
set_option maxRecDepth 100000 in
theorem w_X8_rests_92 {r : Int32} {τ : x_Hp} (C : x_C p s m args meth c cX8_rests 6 (some .int) yX8_rests.cls TX G) {k65 : Int32 → Int32 → Int32 → Int32 → x_Hp → Option (Int32 × x_Hp)} (hk65 : ∀ (x2 : Int32) (x3 : Int32) (x4 : Int32) (x5 : Int32) (σ : x_Hp) (h : k65 x2 x3 x4 x5 σ = some (r, τ)), x_W p l e rm_X8_rests s m args below meth c (MQ below (x_Q TX G (some (.int r)) τ) args s 0 0 (x_A TX G)) TX G 6 65 [(0, .ref (x_ad G 0)), (2, .int x2), (3, .int x3), (4, .int x4), (5, .int x5)] [] σ) (x2 : Int32) (x3 : Int32) (x4 : Int32) (x5 : Int32) (σ : x_Hp) (h : F_X8_rests_92 k65 x2 x3 x4 x5 σ = some (r, τ)) : x_W p l e rm_X8_rests s m args below meth c (MQ below (x_Q TX G (some (.int r)) τ) args s 0 0 (x_A TX G)) TX G 6 92 [(0, .ref (x_ad G 0)), (2, .int x2), (3, .int x3), (4, .int x4), (5, .int x5)] [] σ := by
  have hG : x_OK TX G := C.2.2.2.2.2.2.2.2.1
  rw [F_X8_rests_92] at h
  refine x_iinc C 4 (x5 + (1 : Int32)) [(5, .int (x5 + (1 : Int32))), (0, .ref (x_ad G 0)), (2, .int x2), (3, .int x3), (4, .int x4)] dX8_rests_92 rfl rfl (by decide) rfl ?_
  refine x_goto C 65 dX8_rests_95 rfl ?_
  exact x_sub [1, 2, 3, 4, 0] rfl (hk65 x2 x3 x4 (x5 + (1 : Int32)) σ h)
set_option maxHeartbeats 4000000 in
set_option maxRecDepth 100000 in
theorem w_X8_rests_65 {r : Int32} {τ : x_Hp} (C : x_C p s m args meth c cX8_rests 6 (some .int) yX8_rests.cls TX G) : ∀ (n : Nat) (x2 : Int32) (x3 : Int32) (x4 : Int32) (x5 : Int32) (σ : x_Hp) (h : F_X8_rests_65 n x2 x3 x4 x5 σ = some (r, τ)), x_W p l e rm_X8_rests s m args below meth c (MQ below (x_Q TX G (some (.int r)) τ) args s 0 0 (x_A TX G)) TX G 6 65 [(0, .ref (x_ad G 0)), (2, .int x2), (3, .int x3), (4, .int x4), (5, .int x5)] [] σ := by
  intro n
  induction n with
  | zero => intro x2 x3 x4 x5 σ  h; cases h
  | succ n ih =>
    intro x2 x3 x4 x5 σ  h
    have hG : x_OK TX G := C.2.2.2.2.2.2.2.2.1
    rw [F_X8_rests_65] at h
    refine x_iload C 4 dX8_rests_65 rfl ?_
    refine x_iload_n C 2 dX8_rests_67 rfl rfl ?_
    refine x_icmp_ge C 98 dX8_rests_68 rfl (fun hc => ?_) (fun hc => ?_)
    · replace h := x_itp hc h
      refine x_iload_n C 1 dX8_rests_98 rfl rfl ?_
      refine x_iconst C (-1 : Int32) dX8_rests_99 (by decide) ?_
      refine x_icmp_ne C 108 dX8_rests_100 rfl (fun hc => ?_) (fun hc => ?_)
      · replace h := x_itn hc h
        refine x_iconst C (-1 : Int32) dX8_rests_108 (by decide) ?_
        obtain ⟨rfl, rfl⟩ := x_ret h
        exact x_iret C dX8_rests_109
      · replace h := x_itp hc h
        refine x_iload C 3 dX8_rests_103 rfl ?_
        refine x_goto C 109 dX8_rests_105 rfl ?_
        obtain ⟨rfl, rfl⟩ := x_ret h
        exact x_iret C dX8_rests_109
    · replace h := x_itn hc h
      refine x_aload_n C 0 dX8_rests_71 rfl rfl ?_
      refine x_iload C 4 dX8_rests_72 rfl ?_
      obtain ⟨v4, σ4, hc4, h⟩ := x_b_some h
      refine x_callV C (n := 1) (c_X8_isAtRest hG hc4) kX_0 (by decide) rfl wd_1133 wd_1135 wd_44 wd_102 wd_1136 (by decide +kernel) rfl ⟨Nat.le_of_ble_eq_true rfl, Nat.le_of_ble_eq_true rfl⟩ ⟨rfl, rfl⟩ rfl (Nat.le_of_ble_eq_true rfl) dX8_rests_74 ?_
      refine x_if_eq C 92 dX8_rests_77 rfl (fun hc => ?_) (fun hc => ?_)
      · replace h := x_itp hc h
        exact x_sub [0, 1, 2, 3, 4] rfl (w_X8_rests_92 C ih x2 x3 x4 x5 σ4 h)
      · replace h := x_itn hc h
        refine x_iload C 3 dX8_rests_80 rfl ?_
        refine x_iload_n C 1 dX8_rests_82 rfl rfl ?_
        refine x_icmp_ne C 89 dX8_rests_83 rfl (fun hc => ?_) (fun hc => ?_)
        · replace h := x_itn hc h
          refine x_iinc C 3 (x4 + (1 : Int32)) [(4, .int (x4 + (1 : Int32))), (0, .ref (x_ad G 0)), (2, .int x2), (3, .int x3), (5, .int x5)] dX8_rests_89 rfl rfl (by decide) rfl ?_
          exact x_sub [1, 2, 3, 0, 4] rfl (w_X8_rests_92 C ih x2 x3 (x4 + (1 : Int32)) x5 σ4 h)
        · replace h := x_itp hc h
          refine x_iload C 4 dX8_rests_86 rfl ?_
          obtain ⟨rfl, rfl⟩ := x_ret h
          exact x_iret C dX8_rests_88
set_option maxHeartbeats 4000000 in
set_option maxRecDepth 100000 in
theorem w_X8_rests_40 {r : Int32} {τ : x_Hp} (C : x_C p s m args meth c cX8_rests 6 (some .int) yX8_rests.cls TX G) : ∀ (n : Nat) (x1 : Int32) (x2 : Int32) (x3 : Int32) (x4 : Int32) (σ : x_Hp) (h : F_X8_rests_40 n x1 x2 x3 x4 σ = some (r, τ)), x_W p l e rm_X8_rests s m args below meth c (MQ below (x_Q TX G (some (.int r)) τ) args s 0 0 (x_A TX G)) TX G 6 40 [(0, .ref (x_ad G 0)), (1, .int x1), (2, .int x2), (3, .int x3), (4, .int x4)] [] σ := by
  intro n
  induction n with
  | zero => intro x1 x2 x3 x4 σ  h; cases h
  | succ n ih =>
    intro x1 x2 x3 x4 σ  h
    have hG : x_OK TX G := C.2.2.2.2.2.2.2.2.1
    rw [F_X8_rests_40] at h
    refine x_iload C 4 dX8_rests_40 rfl ?_
    refine x_iload_n C 3 dX8_rests_42 rfl rfl ?_
    refine x_icmp_ge C 59 dX8_rests_43 rfl (fun hc => ?_) (fun hc => ?_)
    · replace h := x_itp hc h
      refine x_iconst C (0 : Int32) dX8_rests_59 (by decide) ?_
      refine x_istore C [(4, .int (0 : Int32)), (0, .ref (x_ad G 0)), (1, .int x1), (2, .int x2), (3, .int x3)] dX8_rests_60 (by decide) rfl ?_
      refine x_iconst C (0 : Int32) dX8_rests_62 (by decide) ?_
      refine x_istore C [(5, .int (0 : Int32)), (4, .int (0 : Int32)), (0, .ref (x_ad G 0)), (1, .int x1), (2, .int x2), (3, .int x3)] dX8_rests_63 (by decide) rfl ?_
      exact x_sub [2, 4, 5, 1, 0] rfl (w_X8_rests_65 C x_fuel x2 x3 (0 : Int32) (0 : Int32) σ h)
    · replace h := x_itn hc h
      refine x_aload_n C 0 dX8_rests_46 rfl rfl ?_
      refine x_iload C 4 dX8_rests_47 rfl ?_
      refine x_iload_n C 1 dX8_rests_49 rfl rfl ?_
      obtain ⟨v3, σ3, hc3, h⟩ := x_b_some h
      refine x_callV C (n := 2) (c_X8_laughInSet hG hc3) kX_0 (by decide) rfl wd_1128 wd_1130 wd_43 wd_102 wd_1131 (by decide +kernel) rfl ⟨Nat.le_of_ble_eq_true rfl, Nat.le_of_ble_eq_true rfl⟩ ⟨rfl, rfl⟩ rfl (Nat.le_of_ble_eq_true rfl) dX8_rests_50 ?_
      refine x_iinc C 4 (x4 + (1 : Int32)) [(4, .int (x4 + (1 : Int32))), (0, .ref (x_ad G 0)), (1, .int x1), (2, .int x2), (3, .int x3)] dX8_rests_53 rfl rfl (by decide) rfl ?_
      refine x_goto C 40 dX8_rests_56 rfl ?_
      exact x_sub [1, 2, 3, 4, 0] rfl (ih x1 x2 x3 (x4 + (1 : Int32)) σ3 h)
set_option maxHeartbeats 4000000 in
set_option maxRecDepth 100000 in
theorem c_X8_rests (hG : x_OK TX G) {x1 : Int32} {x2 : Int32} {σ τ : x_Hp} {r : Int32} (h : F_X8_rests x1 x2 σ = some (r, τ)) : x_M l TX G yX8_rests cX8_rests 6 (some .int) rm_X8_rests [.ref (x_ad G 0), .int x1, .int x2] σ (some (.int r)) τ := by
  refine x_M.of hG (lv := [(0, .ref (x_ad G 0)), (1, .int x1), (2, .int x2)]) (by decide) (Nat.le_of_ble_eq_true rfl) rfl (fun p e s m below meth c C => ?_)
  rw [F_X8_rests] at h
  refine x_iload_n C 1 dX8_rests_0 rfl rfl ?_
  refine x_iconst C (1 : Int32) dX8_rests_1 (by decide) ?_
  refine x_bipush C (10 : Int32) dX8_rests_2 (by decide) ?_
  obtain ⟨v1, σ1, hc1, h⟩ := x_b_some h
  refine x_callS C (n := 3) (c_X8_between hG hc1) wd_835 wd_836 wd_102 wd_837 (by decide +kernel) rfl ⟨Nat.le_of_ble_eq_true rfl, Nat.le_of_ble_eq_true rfl⟩ ⟨rfl, rfl⟩ rfl (Nat.le_of_ble_eq_true rfl) dX8_rests_4 ?_
  refine x_if_eq C 15 dX8_rests_7 rfl (fun hc => ?_) (fun hc => ?_)
  · replace h := x_itp hc h
    refine x_iconst C (-1 : Int32) dX8_rests_15 (by decide) ?_
    obtain ⟨rfl, rfl⟩ := x_ret h
    exact x_iret C dX8_rests_16
  · replace h := x_itn hc h
    refine x_iload_n C 2 dX8_rests_10 rfl rfl ?_
    refine x_iconst C (-1 : Int32) dX8_rests_11 (by decide) ?_
    refine x_icmp_ge C 17 dX8_rests_12 rfl (fun hc => ?_) (fun hc => ?_)
    · replace h := x_itp hc h
      refine x_aload_n C 0 dX8_rests_17 rfl rfl ?_
      obtain ⟨v2, σ2, hc2, h⟩ := x_b_some h
      refine x_callV C (n := 0) (c_X8_asleepOrAlone hG hc2) kX_0 (by decide) rfl wd_938 wd_940 wd_33 wd_102 wd_941 (by decide +kernel) rfl ⟨Nat.le_of_ble_eq_true rfl, Nat.le_of_ble_eq_true rfl⟩ ⟨rfl, rfl⟩ rfl (Nat.le_of_ble_eq_true rfl) dX8_rests_18 ?_
      refine x_if_eq C 27 dX8_rests_21 rfl (fun hc => ?_) (fun hc => ?_)
      · replace h := x_itp hc h
        refine x_iconst C (1 : Int32) dX8_rests_27 (by decide) ?_
        refine x_aload_n C 0 dX8_rests_28 rfl rfl ?_
        refine x_getRq C (k := 0) kX_0 (by decide) rfl x_in8 (by decide) (by decide) rfl rfl wd_543 rfX_0_0 dX8_rests_29 ?_
        refine x_getI C (k := 7) kX_1 (by decide) rfl x_in6 (by decide) (by decide) rfl rfl wd_187 dX8_rests_32 ?_
        refine x_ishl C dX8_rests_35 ?_
        refine x_istore_n C [(3, .int ((1 : Int32) <<< ((σ2.1 1 7) &&& 31))), (0, .ref (x_ad G 0)), (1, .int x1), (2, .int x2)] dX8_rests_36 rfl (by decide) rfl ?_
        refine x_iconst C (0 : Int32) dX8_rests_37 (by decide) ?_
        refine x_istore C [(4, .int (0 : Int32)), (3, .int ((1 : Int32) <<< ((σ2.1 1 7) &&& 31))), (0, .ref (x_ad G 0)), (1, .int x1), (2, .int x2)] dX8_rests_38 (by decide) rfl ?_
        exact x_sub [2, 3, 4, 1, 0] rfl (w_X8_rests_40 C x_fuel x1 x2 ((1 : Int32) <<< ((σ2.1 1 7) &&& 31)) (0 : Int32) σ2 h)
      · replace h := x_itn hc h
        refine x_bipush C (-2 : Int32) dX8_rests_24 (by decide) ?_
        obtain ⟨rfl, rfl⟩ := x_ret h
        exact x_iret C dX8_rests_26
    · replace h := x_itn hc h
      refine x_iconst C (-1 : Int32) dX8_rests_15 (by decide) ?_
      obtain ⟨rfl, rfl⟩ := x_ret h
      exact x_iret C dX8_rests_16
abbrev rm_X8_silk : Room := { frames := 6, cells := 0, slots := 0, locals := 146 }
set_option maxHeartbeats 4000000 in
set_option maxRecDepth 100000 in
theorem w_X8_silk_27 {r : Int32} {τ : x_Hp} (C : x_C p s m args meth c cX8_silk 5 (some .int) yX8_silk.cls TX G) : ∀ (n : Nat) (x1 : Int32) (x2 : Int32) (x3 : Int32) (x4 : Int32) (σ : x_Hp) (h : F_X8_silk_27 n x1 x2 x3 x4 σ = some (r, τ)), x_W p l e rm_X8_silk s m args below meth c (MQ below (x_Q TX G (some (.int r)) τ) args s 0 0 (x_A TX G)) TX G 5 27 [(0, .ref (x_ad G 0)), (1, .int x1), (2, .int x2), (3, .int x3), (4, .int x4)] [] σ := by
  intro n
  induction n with
  | zero => intro x1 x2 x3 x4 σ  h; cases h
  | succ n ih =>
    intro x1 x2 x3 x4 σ  h
    have hG : x_OK TX G := C.2.2.2.2.2.2.2.2.1
    rw [F_X8_silk_27] at h
    refine x_iload C 4 dX8_silk_27 rfl ?_
    refine x_iload_n C 2 dX8_silk_29 rfl rfl ?_
    refine x_icmp_ge C 99 dX8_silk_30 rfl (fun hc => ?_) (fun hc => ?_)
    · replace h := x_itp hc h
      refine x_iload_n C 3 dX8_silk_99 rfl rfl ?_
      obtain ⟨rfl, rfl⟩ := x_ret h
      exact x_iret C dX8_silk_100
    · replace h := x_itn hc h
      refine x_aload_n C 0 dX8_silk_33 rfl rfl ?_
      refine x_getRq C (k := 4) kX_0 (by decide) rfl x_in8 (by decide) (by decide) rfl rfl wd_547 rfX_0_4 dX8_silk_34 ?_
      refine x_aload_n C 0 dX8_silk_37 rfl rfl ?_
      refine x_getRq C (k := 3) kX_0 (by decide) rfl x_in8 (by decide) (by decide) rfl rfl wd_546 rfX_0_3 dX8_silk_38 ?_
      obtain ⟨v3, σ3, hc3, h⟩ := x_b_some h
      refine x_callV C (n := 1) (c_X5_takeFrom hG kX_37 kX_35 hc3) kX_37 (by decide) rfl wd_971 wd_886 wd_887 wd_107 wd_888 (by decide +kernel) rfl ⟨Nat.le_of_ble_eq_true rfl, Nat.le_of_ble_eq_true rfl⟩ ⟨rfl, rfl⟩ rfl (Nat.le_of_ble_eq_true rfl) dX8_silk_41 ?_
      refine x_aload_n C 0 dX8_silk_44 rfl rfl ?_
      refine x_getRq C (k := 4) kX_0 (by decide) rfl x_in8 (by decide) (by decide) rfl rfl wd_547 rfX_0_4 dX8_silk_45 ?_
      refine x_aload_n C 0 dX8_silk_48 rfl rfl ?_
      refine x_getRq C (k := 0) kX_0 (by decide) rfl x_in8 (by decide) (by decide) rfl rfl wd_543 rfX_0_0 dX8_silk_49 ?_
      refine x_getI C (k := 6) kX_1 (by decide) rfl x_in6 (by decide) (by decide) rfl rfl wd_183 dX8_silk_52 ?_
      refine x_iload C 4 dX8_silk_55 rfl ?_
      refine x_iadd C dX8_silk_57 ?_
      refine x_putI C (k := 16) tyX5 kX_37 (by decide) rfl x_in5 tyX5_ok nmX5 (by decide) (by decide) rfl rfl wd_353 rfl (tyX5_ok 16 (by decide)) rfl rfl dX8_silk_58 (x_gen h fun σ4 h => ?_)
      refine x_aload_n C 0 dX8_silk_61 rfl rfl ?_
      refine x_getRq C (k := 2) kX_0 (by decide) rfl x_in8 (by decide) (by decide) rfl rfl wd_545 rfX_0_2 dX8_silk_62 ?_
      refine x_aload_n C 0 dX8_silk_65 rfl rfl ?_
      refine x_getRq C (k := 4) kX_0 (by decide) rfl x_in8 (by decide) (by decide) rfl rfl wd_547 rfX_0_4 dX8_silk_66 ?_
      refine x_iload_n C 1 dX8_silk_69 rfl rfl ?_
      obtain ⟨v5, σ5, hc5, h⟩ := x_b_some h
      refine x_callV C (n := 2) (c_X0_goOn hG kX_34 kX_37 hc5) kX_34 (by decide) rfl wd_891 wd_892 wd_893 wd_106 wd_894 (by decide +kernel) rfl ⟨Nat.le_of_ble_eq_true rfl, Nat.le_of_ble_eq_true rfl⟩ ⟨rfl, rfl⟩ rfl (Nat.le_of_ble_eq_true rfl) dX8_silk_70 ?_
      refine x_iload_n C 3 dX8_silk_73 rfl rfl ?_
      refine x_aload_n C 0 dX8_silk_74 rfl rfl ?_
      refine x_getRq C (k := 4) kX_0 (by decide) rfl x_in8 (by decide) (by decide) rfl rfl wd_547 rfX_0_4 dX8_silk_75 ?_
      refine x_iconst C (4 : Int32) dX8_silk_78 (by decide) ?_
      obtain ⟨v6, σ6, hc6, h⟩ := x_b_some h
      refine x_callV C (n := 1) (c_X5_allTallied hG kX_37 hc6) kX_37 (by decide) rfl wd_1093 wd_977 wd_978 wd_107 wd_979 (by decide +kernel) rfl ⟨Nat.le_of_ble_eq_true rfl, Nat.le_of_ble_eq_true rfl⟩ ⟨rfl, rfl⟩ rfl (Nat.le_of_ble_eq_true rfl) dX8_silk_79 ?_
      refine x_aload_n C 0 dX8_silk_82 rfl rfl ?_
      refine x_getRq C (k := 3) kX_0 (by decide) rfl x_in8 (by decide) (by decide) rfl rfl wd_546 rfX_0_3 dX8_silk_83 ?_
      refine x_iconst C (4 : Int32) dX8_silk_86 (by decide) ?_
      obtain ⟨v7, σ7, hc7, h⟩ := x_b_some h
      refine x_callV C (n := 1) (c_X5_allTallied hG kX_35 hc7) kX_35 (by decide) rfl wd_1093 wd_977 wd_978 wd_107 wd_979 (by decide +kernel) rfl ⟨Nat.le_of_ble_eq_true rfl, Nat.le_of_ble_eq_true rfl⟩ ⟨rfl, rfl⟩ rfl (Nat.le_of_ble_eq_true rfl) dX8_silk_87 ?_
      refine x_isub C dX8_silk_90 ?_
      refine x_iadd C dX8_silk_91 ?_
      refine x_istore_n C [(3, .int (x3 + (v6 - v7))), (0, .ref (x_ad G 0)), (1, .int x1), (2, .int x2), (4, .int x4)] dX8_silk_92 rfl (by decide) rfl ?_
      refine x_iinc C 4 (x4 + (1 : Int32)) [(4, .int (x4 + (1 : Int32))), (3, .int (x3 + (v6 - v7))), (0, .ref (x_ad G 0)), (1, .int x1), (2, .int x2)] dX8_silk_93 rfl rfl (by decide) rfl ?_
      refine x_goto C 27 dX8_silk_96 rfl ?_
      exact x_sub [2, 3, 4, 1, 0] rfl (ih x1 x2 (x3 + (v6 - v7)) (x4 + (1 : Int32)) σ7 h)
set_option maxHeartbeats 4000000 in
set_option maxRecDepth 100000 in
theorem c_X8_silk (hG : x_OK TX G) {x1 : Int32} {x2 : Int32} {σ τ : x_Hp} {r : Int32} (h : F_X8_silk x1 x2 σ = some (r, τ)) : x_M l TX G yX8_silk cX8_silk 5 (some .int) rm_X8_silk [.ref (x_ad G 0), .int x1, .int x2] σ (some (.int r)) τ := by
  refine x_M.of hG (lv := [(0, .ref (x_ad G 0)), (1, .int x1), (2, .int x2)]) (by decide) (Nat.le_of_ble_eq_true rfl) rfl (fun p e s m below meth c C => ?_)
  rw [F_X8_silk] at h
  refine x_iload_n C 1 dX8_silk_0 rfl rfl ?_
  refine x_iconst C (0 : Int32) dX8_silk_1 (by decide) ?_
  refine x_bipush C (120 : Int32) dX8_silk_2 (by decide) ?_
  obtain ⟨v1, σ1, hc1, h⟩ := x_b_some h
  refine x_callS C (n := 3) (c_X8_between hG hc1) wd_835 wd_836 wd_102 wd_837 (by decide +kernel) rfl ⟨Nat.le_of_ble_eq_true rfl, Nat.le_of_ble_eq_true rfl⟩ ⟨rfl, rfl⟩ rfl (Nat.le_of_ble_eq_true rfl) dX8_silk_4 ?_
  refine x_if_eq C 20 dX8_silk_7 rfl (fun hc => ?_) (fun hc => ?_)
  · replace h := x_itp hc h
    refine x_iconst C (-1 : Int32) dX8_silk_20 (by decide) ?_
    obtain ⟨rfl, rfl⟩ := x_ret h
    exact x_iret C dX8_silk_21
  · replace h := x_itn hc h
    refine x_iload_n C 2 dX8_silk_10 rfl rfl ?_
    refine x_iconst C (1 : Int32) dX8_silk_11 (by decide) ?_
    refine x_bipush C (20 : Int32) dX8_silk_12 (by decide) ?_
    obtain ⟨v2, σ2, hc2, h⟩ := x_b_some h
    refine x_callS C (n := 3) (c_X8_between hG hc2) wd_835 wd_836 wd_102 wd_837 (by decide +kernel) rfl ⟨Nat.le_of_ble_eq_true rfl, Nat.le_of_ble_eq_true rfl⟩ ⟨rfl, rfl⟩ rfl (Nat.le_of_ble_eq_true rfl) dX8_silk_14 ?_
    refine x_if_ne C 22 dX8_silk_17 rfl (fun hc => ?_) (fun hc => ?_)
    · replace h := x_itn hc h
      refine x_iconst C (0 : Int32) dX8_silk_22 (by decide) ?_
      refine x_istore_n C [(3, .int (0 : Int32)), (0, .ref (x_ad G 0)), (1, .int x1), (2, .int x2)] dX8_silk_23 rfl (by decide) rfl ?_
      refine x_iconst C (0 : Int32) dX8_silk_24 (by decide) ?_
      refine x_istore C [(4, .int (0 : Int32)), (3, .int (0 : Int32)), (0, .ref (x_ad G 0)), (1, .int x1), (2, .int x2)] dX8_silk_25 (by decide) rfl ?_
      exact x_sub [2, 3, 4, 1, 0] rfl (w_X8_silk_27 C x_fuel x1 x2 (0 : Int32) (0 : Int32) σ2 h)
    · replace h := x_itp hc h
      refine x_iconst C (-1 : Int32) dX8_silk_20 (by decide) ?_
      obtain ⟨rfl, rfl⟩ := x_ret h
      exact x_iret C dX8_silk_21
abbrev rm_X8_commonDivisor : Room := { frames := 0, cells := 0, slots := 0, locals := 0 }
set_option maxHeartbeats 4000000 in
set_option maxRecDepth 100000 in
theorem w_X8_commonDivisor_2 {r : Int32} {τ : x_Hp} (C : x_C p s m args meth c cX8_commonDivisor 4 (some .int) yX8_commonDivisor.cls TX G) : ∀ (n : Nat) (x0 : Int32) (x1 : Int32) (x2 : Int32) (σ : x_Hp) (h : F_X8_commonDivisor_2 n x0 x1 x2 σ = some (r, τ)), x_W p l e rm_X8_commonDivisor s m args below meth c (MQ below (x_Q TX G (some (.int r)) τ) args s 0 0 (x_A TX G)) TX G 4 2 [(0, .int x0), (1, .int x1), (2, .int x2)] [] σ := by
  intro n
  induction n with
  | zero => intro x0 x1 x2 σ  h; cases h
  | succ n ih =>
    intro x0 x1 x2 σ  h
    have hG : x_OK TX G := C.2.2.2.2.2.2.2.2.1
    rw [F_X8_commonDivisor_2] at h
    refine x_iload_n C 2 dX8_commonDivisor_2 rfl rfl ?_
    refine x_bipush C (100 : Int32) dX8_commonDivisor_3 (by decide) ?_
    refine x_icmp_ge C 26 dX8_commonDivisor_5 rfl (fun hc => ?_) (fun hc => ?_)
    · replace h := x_itp hc h
      refine x_iload_n C 0 dX8_commonDivisor_26 rfl rfl ?_
      obtain ⟨rfl, rfl⟩ := x_ret h
      exact x_iret C dX8_commonDivisor_27
    · replace h := x_itn hc h
      refine x_iload_n C 1 dX8_commonDivisor_8 rfl rfl ?_
      refine x_if_eq C 26 dX8_commonDivisor_9 rfl (fun hc => ?_) (fun hc => ?_)
      · replace h := x_itp hc h
        refine x_iload_n C 0 dX8_commonDivisor_26 rfl rfl ?_
        obtain ⟨rfl, rfl⟩ := x_ret h
        exact x_iret C dX8_commonDivisor_27
      · replace h := x_itn hc h
        refine x_iload_n C 0 dX8_commonDivisor_12 rfl rfl ?_
        refine x_iload_n C 1 dX8_commonDivisor_13 rfl rfl ?_
        obtain ⟨hg, h⟩ := x_gd_some h
        refine x_irem C dX8_commonDivisor_14 (x_ne0 hg) ?_
        refine x_istore_n C [(3, .int (x0 - x0 / x1 * x1)), (0, .int x0), (1, .int x1), (2, .int x2)] dX8_commonDivisor_15 rfl (by decide) rfl ?_
        refine x_iload_n C 2 dX8_commonDivisor_16 rfl rfl ?_
        refine x_istore_n C [(0, .int x1), (3, .int (x0 - x0 / x1 * x1)), (1, .int x1), (2, .int x2)] dX8_commonDivisor_17 rfl (by decide) rfl ?_
        refine x_iload_n C 1 dX8_commonDivisor_18 rfl rfl ?_
        refine x_istore_n C [(1, .int (x0 - x0 / x1 * x1)), (0, .int x1), (3, .int (x0 - x0 / x1 * x1)), (2, .int x2)] dX8_commonDivisor_19 rfl (by decide) rfl ?_
        refine x_iinc C 3 (x2 + (1 : Int32)) [(2, .int (x2 + (1 : Int32))), (1, .int (x0 - x0 / x1 * x1)), (0, .int x1), (3, .int (x0 - x0 / x1 * x1))] dX8_commonDivisor_20 rfl rfl (by decide) rfl ?_
        refine x_goto C 2 dX8_commonDivisor_23 rfl ?_
        exact x_sub [2, 1, 0] rfl (ih x1 (x0 - x0 / x1 * x1) (x2 + (1 : Int32)) σ h)
set_option maxHeartbeats 4000000 in
set_option maxRecDepth 100000 in
theorem c_X8_commonDivisor (hG : x_OK TX G) {x0 : Int32} {x1 : Int32} {σ τ : x_Hp} {r : Int32} (h : F_X8_commonDivisor x0 x1 σ = some (r, τ)) : x_M l TX G yX8_commonDivisor cX8_commonDivisor 4 (some .int) rm_X8_commonDivisor [.int x0, .int x1] σ (some (.int r)) τ := by
  refine x_M.of hG (lv := [(0, .int x0), (1, .int x1)]) (by decide) (Nat.le_of_ble_eq_true rfl) rfl (fun p e s m below meth c C => ?_)
  rw [F_X8_commonDivisor] at h
  refine x_iconst C (0 : Int32) dX8_commonDivisor_0 (by decide) ?_
  refine x_istore_n C [(2, .int (0 : Int32)), (0, .int x0), (1, .int x1)] dX8_commonDivisor_1 rfl (by decide) rfl ?_
  exact x_sub [1, 2, 0] rfl (w_X8_commonDivisor_2 C x_fuel x0 x1 (0 : Int32) σ h)
abbrev rm_X8_likes : Room := { frames := 2, cells := 0, slots := 0, locals := 43 }
set_option maxHeartbeats 4000000 in
set_option maxRecDepth 100000 in
theorem c_X8_likes (hG : x_OK TX G) {x1 : Int32} {x2 : Int32} {σ τ : x_Hp} {r : Int32} (h : F_X8_likes x1 x2 σ = some (r, τ)) : x_M l TX G yX8_likes cX8_likes 6 (some .int) rm_X8_likes [.ref (x_ad G 0), .int x1, .int x2] σ (some (.int r)) τ := by
  refine x_M.of hG (lv := [(0, .ref (x_ad G 0)), (1, .int x1), (2, .int x2)]) (by decide) (Nat.le_of_ble_eq_true rfl) rfl (fun p e s m below meth c C => ?_)
  rw [F_X8_likes] at h
  refine x_aload_n C 0 dX8_likes_0 rfl rfl ?_
  refine x_iload_n C 1 dX8_likes_1 rfl rfl ?_
  obtain ⟨v1, σ1, hc1, h⟩ := x_b_some h
  refine x_callV C (n := 1) (c_X8_isAunt hG hc1) kX_0 (by decide) rfl wd_831 wd_833 wd_27 wd_102 wd_834 (by decide +kernel) rfl ⟨Nat.le_of_ble_eq_true rfl, Nat.le_of_ble_eq_true rfl⟩ ⟨rfl, rfl⟩ rfl (Nat.le_of_ble_eq_true rfl) dX8_likes_2 ?_
  refine x_if_ne C 10 dX8_likes_5 rfl (fun hc => ?_) (fun hc => ?_)
  · replace h := x_itn hc h
    refine x_aload_n C 0 dX8_likes_10 rfl rfl ?_
    refine x_getRq C (k := 3) kX_0 (by decide) rfl x_in8 (by decide) (by decide) rfl rfl wd_546 rfX_0_3 dX8_likes_11 ?_
    refine x_iload_n C 1 dX8_likes_14 rfl rfl ?_
    refine x_iconst C (0 : Int32) dX8_likes_15 (by decide) ?_
    obtain ⟨v2, σ2, hc2, h⟩ := x_b_some h
    refine x_callV C (n := 2) (c_X5_tallied hG kX_35 hc2) kX_35 (by decide) rfl wd_839 wd_840 wd_841 wd_107 wd_842 (by decide +kernel) rfl ⟨Nat.le_of_ble_eq_true rfl, Nat.le_of_ble_eq_true rfl⟩ ⟨rfl, rfl⟩ rfl (Nat.le_of_ble_eq_true rfl) dX8_likes_16 ?_
    refine x_istore_n C [(3, .int v2), (0, .ref (x_ad G 0)), (1, .int x1), (2, .int x2)] dX8_likes_19 rfl (by decide) rfl ?_
    refine x_iload_n C 0 dX8_likes_20 rfl rfl ?_
    refine x_if_ne C 27 dX8_likes_21 rfl (fun hc => ?_) (fun hc => ?_)
    · replace h := x_itn hc h
      refine x_aload_n C 1 dX8_likes_27 rfl rfl ?_
      refine x_getRq C (k := 3) kX_0 (by decide) rfl x_in8 (by decide) (by decide) rfl rfl wd_546 rfX_0_3 dX8_likes_28 ?_
      refine x_iload_n C 2 dX8_likes_31 rfl rfl ?_
      refine x_iconst C (1 : Int32) dX8_likes_32 (by decide) ?_
      obtain ⟨v3, σ3, hc3, h⟩ := x_b_some h
      refine x_callV C (n := 2) (c_X5_tallied hG kX_35 hc3) kX_35 (by decide) rfl wd_839 wd_840 wd_841 wd_107 wd_842 (by decide +kernel) rfl ⟨Nat.le_of_ble_eq_true rfl, Nat.le_of_ble_eq_true rfl⟩ ⟨rfl, rfl⟩ rfl (Nat.le_of_ble_eq_true rfl) dX8_likes_33 ?_
      refine x_istore C [(4, .int v3), (3, .int v2), (0, .ref (x_ad G 0)), (1, .int x1), (2, .int x2)] dX8_likes_36 (by decide) rfl ?_
      refine x_iload_n C 1 dX8_likes_38 rfl rfl ?_
      refine x_iload C 0 dX8_likes_39 rfl ?_
      obtain ⟨v4, σ4, hc4, h⟩ := x_b_some h
      refine x_callS C (n := 2) (c_X8_commonDivisor hG hc4) wd_1145 wd_1146 wd_102 wd_1147 (by decide +kernel) rfl ⟨Nat.le_of_ble_eq_true rfl, Nat.le_of_ble_eq_true rfl⟩ ⟨rfl, rfl⟩ rfl (Nat.le_of_ble_eq_true rfl) dX8_likes_41 ?_
      refine x_istore C [(5, .int v4), (4, .int v3), (3, .int v2), (0, .ref (x_ad G 0)), (1, .int x1), (2, .int x2)] dX8_likes_44 (by decide) rfl ?_
      refine x_iload C 0 dX8_likes_46 rfl ?_
      refine x_if_ne C 54 dX8_likes_48 rfl (fun hc => ?_) (fun hc => ?_)
      · replace h := x_itn hc h
        refine x_iload_n C 5 dX8_likes_54 rfl rfl ?_
        refine x_if_eq C 65 dX8_likes_55 rfl (fun hc => ?_) (fun hc => ?_)
        · replace h := x_itp hc h
          refine x_iload C 1 dX8_likes_65 rfl ?_
          refine x_iload C 0 dX8_likes_67 rfl ?_
          obtain ⟨hg, h⟩ := x_gd_some h
          refine x_idiv C dX8_likes_69 (x_ne0 hg) ?_
          obtain ⟨rfl, rfl⟩ := x_ret h
          exact x_iret C dX8_likes_70
        · replace h := x_itn hc h
          refine x_iload_n C 2 dX8_likes_58 rfl rfl ?_
          refine x_iload C 0 dX8_likes_59 rfl ?_
          obtain ⟨hg, h⟩ := x_gd_some h
          refine x_idiv C dX8_likes_61 (x_ne0 hg) ?_
          refine x_goto C 70 dX8_likes_62 rfl ?_
          obtain ⟨rfl, rfl⟩ := x_ret h
          exact x_iret C dX8_likes_70
      · replace h := x_itp hc h
        refine x_bipush C (-2 : Int32) dX8_likes_51 (by decide) ?_
        obtain ⟨rfl, rfl⟩ := x_ret h
        exact x_iret C dX8_likes_53
    · replace h := x_itp hc h
      refine x_bipush C (-2 : Int32) dX8_likes_24 (by decide) ?_
      obtain ⟨rfl, rfl⟩ := x_ret h
      exact x_iret C dX8_likes_26
  · replace h := x_itp hc h
    refine x_iconst C (-1 : Int32) dX8_likes_8 (by decide) ?_
    obtain ⟨rfl, rfl⟩ := x_ret h
    exact x_iret C dX8_likes_9
abbrev rm_X8_sleeps : Room := { frames := 5, cells := 0, slots := 0, locals := 123 }
set_option maxHeartbeats 4000000 in
set_option maxRecDepth 100000 in
theorem w_X8_sleeps_13 {r : Int32} {τ : x_Hp} (C : x_C p s m args meth c cX8_sleeps 2 (some .int) yX8_sleeps.cls TX G) : ∀ (n : Nat) (x1 : Int32) (σ : x_Hp) (h : F_X8_sleeps_13 n x1 σ = some (r, τ)), x_W p l e rm_X8_sleeps s m args below meth c (MQ below (x_Q TX G (some (.int r)) τ) args s 0 0 (x_A TX G)) TX G 2 13 [(0, .ref (x_ad G 0)), (1, .int x1)] [] σ := by
  intro n
  induction n with
  | zero => intro x1 σ  h; cases h
  | succ n ih =>
    intro x1 σ  h
    have hG : x_OK TX G := C.2.2.2.2.2.2.2.2.1
    rw [F_X8_sleeps_13] at h
    refine x_iload_n C 1 dX8_sleeps_13 rfl rfl ?_
    refine x_sipush C (240 : Int32) dX8_sleeps_14 (by decide) ?_
    refine x_icmp_ge C 49 dX8_sleeps_17 rfl (fun hc => ?_) (fun hc => ?_)
    · replace h := x_itp hc h
      refine x_aload_n C 0 dX8_sleeps_49 rfl rfl ?_
      refine x_getRq C (k := 4) kX_0 (by decide) rfl x_in8 (by decide) (by decide) rfl rfl wd_547 rfX_0_4 dX8_sleeps_50 ?_
      refine x_getI C (k := 13) kX_37 (by decide) rfl x_in5 (by decide) (by decide) rfl rfl wd_344 dX8_sleeps_53 ?_
      refine x_if_le C 65 dX8_sleeps_56 rfl (fun hc => ?_) (fun hc => ?_)
      · replace h := x_itp hc h
        refine x_bipush C (-2 : Int32) dX8_sleeps_65 (by decide) ?_
        obtain ⟨rfl, rfl⟩ := x_ret h
        exact x_iret C dX8_sleeps_67
      · replace h := x_itn hc h
        refine x_sipush C (240 : Int32) dX8_sleeps_59 (by decide) ?_
        refine x_goto C 67 dX8_sleeps_62 rfl ?_
        obtain ⟨rfl, rfl⟩ := x_ret h
        exact x_iret C dX8_sleeps_67
    · replace h := x_itn hc h
      refine x_aload_n C 0 dX8_sleeps_20 rfl rfl ?_
      refine x_getRq C (k := 4) kX_0 (by decide) rfl x_in8 (by decide) (by decide) rfl rfl wd_547 rfX_0_4 dX8_sleeps_21 ?_
      refine x_getI C (k := 13) kX_37 (by decide) rfl x_in5 (by decide) (by decide) rfl rfl wd_344 dX8_sleeps_24 ?_
      refine x_if_le C 32 dX8_sleeps_27 rfl (fun hc => ?_) (fun hc => ?_)
      · replace h := x_itp hc h
        refine x_aload_n C 0 dX8_sleeps_32 rfl rfl ?_
        refine x_getRq C (k := 2) kX_0 (by decide) rfl x_in8 (by decide) (by decide) rfl rfl wd_545 rfX_0_2 dX8_sleeps_33 ?_
        refine x_aload_n C 0 dX8_sleeps_36 rfl rfl ?_
        refine x_getRq C (k := 4) kX_0 (by decide) rfl x_in8 (by decide) (by decide) rfl rfl wd_547 rfX_0_4 dX8_sleeps_37 ?_
        obtain ⟨v2, σ2, hc2, h⟩ := x_b_some h
        refine x_callV C (n := 1) (c_X0_step hG kX_34 kX_37 hc2) kX_34 (by decide) rfl wd_1119 wd_896 wd_897 wd_106 wd_898 (by decide +kernel) rfl ⟨Nat.le_of_ble_eq_true rfl, Nat.le_of_ble_eq_true rfl⟩ ⟨rfl, rfl⟩ rfl (Nat.le_of_ble_eq_true rfl) dX8_sleeps_40 ?_
        refine x_iinc C 1 (x1 + (1 : Int32)) [(1, .int (x1 + (1 : Int32))), (0, .ref (x_ad G 0))] dX8_sleeps_43 rfl rfl (by decide) rfl ?_
        refine x_goto C 13 dX8_sleeps_46 rfl ?_
        exact x_sub [1, 0] rfl (ih (x1 + (1 : Int32)) σ2 h)
      · replace h := x_itn hc h
        refine x_iload_n C 1 dX8_sleeps_30 rfl rfl ?_
        obtain ⟨rfl, rfl⟩ := x_ret h
        exact x_iret C dX8_sleeps_31
set_option maxHeartbeats 4000000 in
set_option maxRecDepth 100000 in
theorem c_X8_sleeps (hG : x_OK TX G) {σ τ : x_Hp} {r : Int32} (h : F_X8_sleeps σ = some (r, τ)) : x_M l TX G yX8_sleeps cX8_sleeps 2 (some .int) rm_X8_sleeps [.ref (x_ad G 0)] σ (some (.int r)) τ := by
  refine x_M.of hG (lv := [(0, .ref (x_ad G 0))]) (by decide) (Nat.le_of_ble_eq_true rfl) rfl (fun p e s m below meth c C => ?_)
  rw [F_X8_sleeps] at h
  refine x_aload_n C 0 dX8_sleeps_0 rfl rfl ?_
  refine x_getRq C (k := 4) kX_0 (by decide) rfl x_in8 (by decide) (by decide) rfl rfl wd_547 rfX_0_4 dX8_sleeps_1 ?_
  refine x_aload_n C 0 dX8_sleeps_4 rfl rfl ?_
  refine x_getRq C (k := 3) kX_0 (by decide) rfl x_in8 (by decide) (by decide) rfl rfl wd_546 rfX_0_3 dX8_sleeps_5 ?_
  obtain ⟨v1, σ1, hc1, h⟩ := x_b_some h
  refine x_callV C (n := 1) (c_X5_takeFrom hG kX_37 kX_35 hc1) kX_37 (by decide) rfl wd_971 wd_886 wd_887 wd_107 wd_888 (by decide +kernel) rfl ⟨Nat.le_of_ble_eq_true rfl, Nat.le_of_ble_eq_true rfl⟩ ⟨rfl, rfl⟩ rfl (Nat.le_of_ble_eq_true rfl) dX8_sleeps_8 ?_
  refine x_iconst C (0 : Int32) dX8_sleeps_11 (by decide) ?_
  refine x_istore_n C [(1, .int (0 : Int32)), (0, .ref (x_ad G 0))] dX8_sleeps_12 rfl (by decide) rfl ?_
  exact x_sub [1, 0] rfl (w_X8_sleeps_13 C x_fuel (0 : Int32) σ1 h)
abbrev rm_X8_tell : Room := { frames := 1, cells := 0, slots := 0, locals := 22 }
set_option maxHeartbeats 4000000 in
set_option maxRecDepth 100000 in
theorem c_X8_tell (hG : x_OK TX G) {x1 : Int32} {x2 : Int32} {σ τ : x_Hp} {r : Int32} (h : F_X8_tell x1 x2 σ = some (r, τ)) : x_M l TX G yX8_tell cX8_tell 3 (some .int) rm_X8_tell [.ref (x_ad G 0), .int x1, .int x2] σ (some (.int r)) τ := by
  refine x_M.of hG (lv := [(0, .ref (x_ad G 0)), (1, .int x1), (2, .int x2)]) (by decide) (Nat.le_of_ble_eq_true rfl) rfl (fun p e s m below meth c C => ?_)
  rw [F_X8_tell] at h
  refine x_iload_n C 1 dX8_tell_0 rfl rfl ?_
  refine x_iconst C (0 : Int32) dX8_tell_1 (by decide) ?_
  refine x_bipush C (59 : Int32) dX8_tell_2 (by decide) ?_
  obtain ⟨v1, σ1, hc1, h⟩ := x_b_some h
  refine x_callS C (n := 3) (c_X8_between hG hc1) wd_835 wd_836 wd_102 wd_837 (by decide +kernel) rfl ⟨Nat.le_of_ble_eq_true rfl, Nat.le_of_ble_eq_true rfl⟩ ⟨rfl, rfl⟩ rfl (Nat.le_of_ble_eq_true rfl) dX8_tell_4 ?_
  refine x_if_eq C 29 dX8_tell_7 rfl (fun hc => ?_) (fun hc => ?_)
  · replace h := x_itp hc h
    refine x_iconst C (-1 : Int32) dX8_tell_29 (by decide) ?_
    obtain ⟨rfl, rfl⟩ := x_ret h
    exact x_iret C dX8_tell_30
  · replace h := x_itn hc h
    refine x_iload_n C 2 dX8_tell_10 rfl rfl ?_
    refine x_iconst C (0 : Int32) dX8_tell_11 (by decide) ?_
    refine x_bipush C (99 : Int32) dX8_tell_12 (by decide) ?_
    obtain ⟨v2, σ2, hc2, h⟩ := x_b_some h
    refine x_callS C (n := 3) (c_X8_between hG hc2) wd_835 wd_836 wd_102 wd_837 (by decide +kernel) rfl ⟨Nat.le_of_ble_eq_true rfl, Nat.le_of_ble_eq_true rfl⟩ ⟨rfl, rfl⟩ rfl (Nat.le_of_ble_eq_true rfl) dX8_tell_14 ?_
    refine x_if_eq C 29 dX8_tell_17 rfl (fun hc => ?_) (fun hc => ?_)
    · replace h := x_itp hc h
      refine x_iconst C (-1 : Int32) dX8_tell_29 (by decide) ?_
      obtain ⟨rfl, rfl⟩ := x_ret h
      exact x_iret C dX8_tell_30
    · replace h := x_itn hc h
      refine x_aload_n C 0 dX8_tell_20 rfl rfl ?_
      refine x_getI C (k := 13) kX_0 (by decide) rfl x_in8 (by decide) (by decide) rfl rfl wd_556 dX8_tell_21 ?_
      refine x_bipush C (20 : Int32) dX8_tell_24 (by decide) ?_
      refine x_icmp_lt C 31 dX8_tell_26 rfl (fun hc => ?_) (fun hc => ?_)
      · replace h := x_itp hc h
        refine x_aload_n C 0 dX8_tell_31 rfl rfl ?_
        refine x_getRq C (k := 11) kX_0 (by decide) rfl x_in8 (by decide) (by decide) rfl rfl wd_554 rfX_0_11 dX8_tell_32 ?_
        refine x_aload_n C 0 dX8_tell_35 rfl rfl ?_
        refine x_getI C (k := 13) kX_0 (by decide) rfl x_in8 (by decide) (by decide) rfl rfl wd_556 dX8_tell_36 ?_
        refine x_iload_n C 1 dX8_tell_39 rfl rfl ?_
        obtain ⟨v3, σ3, hc3, h⟩ := x_b_some h
        refine x_callS C (n := 3) (c_X8_put hG kX_169 hc3) wd_817 wd_522 wd_102 wd_523 (by decide +kernel) rfl ⟨Nat.le_of_ble_eq_true rfl, Nat.le_of_ble_eq_true rfl⟩ ⟨rfl, rfl⟩ rfl (Nat.le_of_ble_eq_true rfl) dX8_tell_40 ?_
        refine x_aload_n C 0 dX8_tell_43 rfl rfl ?_
        refine x_getRq C (k := 12) kX_0 (by decide) rfl x_in8 (by decide) (by decide) rfl rfl wd_555 rfX_0_12 dX8_tell_44 ?_
        refine x_aload_n C 0 dX8_tell_47 rfl rfl ?_
        refine x_getI C (k := 13) kX_0 (by decide) rfl x_in8 (by decide) (by decide) rfl rfl wd_556 dX8_tell_48 ?_
        refine x_iload_n C 2 dX8_tell_51 rfl rfl ?_
        obtain ⟨v4, σ4, hc4, h⟩ := x_b_some h
        refine x_callS C (n := 3) (c_X8_put hG kX_170 hc4) wd_817 wd_522 wd_102 wd_523 (by decide +kernel) rfl ⟨Nat.le_of_ble_eq_true rfl, Nat.le_of_ble_eq_true rfl⟩ ⟨rfl, rfl⟩ rfl (Nat.le_of_ble_eq_true rfl) dX8_tell_52 ?_
        refine x_aload_n C 0 dX8_tell_55 rfl rfl ?_
        refine x_dup C dX8_tell_56 rfl ?_
        refine x_getI C (k := 13) kX_0 (by decide) rfl x_in8 (by decide) (by decide) rfl rfl wd_556 dX8_tell_57 ?_
        refine x_iconst C (1 : Int32) dX8_tell_60 (by decide) ?_
        refine x_iadd C dX8_tell_61 ?_
        refine x_putI C (k := 13) tyX8 kX_0 (by decide) rfl x_in8 tyX8_ok nmX8 (by decide) (by decide) rfl rfl wd_556 rfl (tyX8_ok 13 (by decide)) rfl rfl dX8_tell_62 (x_gen h fun σ5 h => ?_)
        refine x_aload_n C 0 dX8_tell_65 rfl rfl ?_
        refine x_getI C (k := 13) kX_0 (by decide) rfl x_in8 (by decide) (by decide) rfl rfl wd_556 dX8_tell_66 ?_
        refine x_iconst C (1 : Int32) dX8_tell_69 (by decide) ?_
        refine x_isub C dX8_tell_70 ?_
        obtain ⟨rfl, rfl⟩ := x_ret h
        exact x_iret C dX8_tell_71
      · replace h := x_itn hc h
        refine x_iconst C (-1 : Int32) dX8_tell_29 (by decide) ?_
        obtain ⟨rfl, rfl⟩ := x_ret h
        exact x_iret C dX8_tell_30
abbrev rm_X8_forget : Room := { frames := 0, cells := 0, slots := 0, locals := 0 }
set_option maxHeartbeats 4000000 in
set_option maxRecDepth 100000 in
theorem c_X8_forget (hG : x_OK TX G) {σ τ : x_Hp} {r : Int32} (h : F_X8_forget σ = some (r, τ)) : x_M l TX G yX8_forget cX8_forget 2 (some .int) rm_X8_forget [.ref (x_ad G 0)] σ (some (.int r)) τ := by
  refine x_M.of hG (lv := [(0, .ref (x_ad G 0))]) (by decide) (Nat.le_of_ble_eq_true rfl) rfl (fun p e s m below meth c C => ?_)
  rw [F_X8_forget] at h
  refine x_aload_n C 0 dX8_forget_0 rfl rfl ?_
  refine x_getI C (k := 13) kX_0 (by decide) rfl x_in8 (by decide) (by decide) rfl rfl wd_556 dX8_forget_1 ?_
  refine x_istore_n C [(1, .int (σ.1 0 13)), (0, .ref (x_ad G 0))] dX8_forget_4 rfl (by decide) rfl ?_
  refine x_aload_n C 1 dX8_forget_5 rfl rfl ?_
  refine x_iconst C (0 : Int32) dX8_forget_6 (by decide) ?_
  refine x_putI C (k := 13) tyX8 kX_0 (by decide) rfl x_in8 tyX8_ok nmX8 (by decide) (by decide) rfl rfl wd_556 rfl (tyX8_ok 13 (by decide)) rfl rfl dX8_forget_7 (x_gen h fun σ1 h => ?_)
  refine x_iload_n C 0 dX8_forget_10 rfl rfl ?_
  obtain ⟨rfl, rfl⟩ := x_ret h
  exact x_iret C dX8_forget_11
abbrev rm_X8_criesAsTold : Room := { frames := 5, cells := 0, slots := 0, locals := 123 }
set_option maxHeartbeats 4000000 in
set_option maxRecDepth 100000 in
theorem w_X8_criesAsTold_81 {r : Int32} {τ : x_Hp} (C : x_C p s m args meth c cX8_criesAsTold 5 (some .boolean) yX8_criesAsTold.cls TX G) {k21 : Int32 → Int32 → x_Hp → Option (Int32 × x_Hp)} (hk21 : ∀ (x2 : Int32) (x3 : Int32) (σ : x_Hp) (h : k21 x2 x3 σ = some (r, τ)), x_W p l e rm_X8_criesAsTold s m args below meth c (MQ below (x_Q TX G (some (.int r)) τ) args s 0 0 (x_A TX G)) TX G 5 21 [(0, .ref (x_ad G 0)), (2, .int x2), (3, .int x3)] [] σ) {k41 : Int32 → Int32 → Int32 → x_Hp → Option (Int32 × x_Hp)} (hk41 : ∀ (x2 : Int32) (x3 : Int32) (x4 : Int32) (σ : x_Hp) (h : k41 x2 x3 x4 σ = some (r, τ)), x_W p l e rm_X8_criesAsTold s m args below meth c (MQ below (x_Q TX G (some (.int r)) τ) args s 0 0 (x_A TX G)) TX G 5 41 [(0, .ref (x_ad G 0)), (2, .int x2), (3, .int x3), (4, .int x4)] [] σ) (x2 : Int32) (x3 : Int32) (x4 : Int32) (σ : x_Hp) (h : F_X8_criesAsTold_81 k21 k41 x2 x3 x4 σ = some (r, τ)) : x_W p l e rm_X8_criesAsTold s m args below meth c (MQ below (x_Q TX G (some (.int r)) τ) args s 0 0 (x_A TX G)) TX G 5 81 [(0, .ref (x_ad G 0)), (2, .int x2), (3, .int x3), (4, .int x4)] [] σ := by
  have hG : x_OK TX G := C.2.2.2.2.2.2.2.2.1
  rw [F_X8_criesAsTold_81] at h
  refine x_iinc C 3 (x4 + (1 : Int32)) [(4, .int (x4 + (1 : Int32))), (0, .ref (x_ad G 0)), (2, .int x2), (3, .int x3)] dX8_criesAsTold_81 rfl rfl (by decide) rfl ?_
  refine x_goto C 41 dX8_criesAsTold_84 rfl ?_
  exact x_sub [1, 2, 3, 0] rfl (hk41 x2 x3 (x4 + (1 : Int32)) σ h)
set_option maxHeartbeats 4000000 in
set_option maxRecDepth 100000 in
theorem w_X8_criesAsTold_41 {r : Int32} {τ : x_Hp} (C : x_C p s m args meth c cX8_criesAsTold 5 (some .boolean) yX8_criesAsTold.cls TX G) {k21 : Int32 → Int32 → x_Hp → Option (Int32 × x_Hp)} (hk21 : ∀ (x2 : Int32) (x3 : Int32) (σ : x_Hp) (h : k21 x2 x3 σ = some (r, τ)), x_W p l e rm_X8_criesAsTold s m args below meth c (MQ below (x_Q TX G (some (.int r)) τ) args s 0 0 (x_A TX G)) TX G 5 21 [(0, .ref (x_ad G 0)), (2, .int x2), (3, .int x3)] [] σ) : ∀ (n : Nat) (x2 : Int32) (x3 : Int32) (x4 : Int32) (σ : x_Hp) (h : F_X8_criesAsTold_41 k21 n x2 x3 x4 σ = some (r, τ)), x_W p l e rm_X8_criesAsTold s m args below meth c (MQ below (x_Q TX G (some (.int r)) τ) args s 0 0 (x_A TX G)) TX G 5 41 [(0, .ref (x_ad G 0)), (2, .int x2), (3, .int x3), (4, .int x4)] [] σ := by
  intro n
  induction n with
  | zero => intro x2 x3 x4 σ  h; cases h
  | succ n ih =>
    intro x2 x3 x4 σ  h
    have hG : x_OK TX G := C.2.2.2.2.2.2.2.2.1
    rw [F_X8_criesAsTold_41] at h
    refine x_iload C 3 dX8_criesAsTold_41 rfl ?_
    refine x_iload_n C 1 dX8_criesAsTold_43 rfl rfl ?_
    refine x_icmp_ge C 87 dX8_criesAsTold_44 rfl (fun hc => ?_) (fun hc => ?_)
    · replace h := x_itp hc h
      refine x_iinc C 2 (x3 + (1 : Int32)) [(3, .int (x3 + (1 : Int32))), (0, .ref (x_ad G 0)), (2, .int x2), (4, .int x4)] dX8_criesAsTold_87 rfl rfl (by decide) rfl ?_
      refine x_goto C 21 dX8_criesAsTold_90 rfl ?_
      exact x_sub [1, 2, 0] rfl (hk21 x2 (x3 + (1 : Int32)) σ h)
    · replace h := x_itn hc h
      refine x_aload_n C 0 dX8_criesAsTold_47 rfl rfl ?_
      refine x_getRq C (k := 11) kX_0 (by decide) rfl x_in8 (by decide) (by decide) rfl rfl wd_554 rfX_0_11 dX8_criesAsTold_48 ?_
      refine x_iload C 3 dX8_criesAsTold_51 rfl ?_
      obtain ⟨v4, σ4, hc4, h⟩ := x_b_some h
      refine x_callS C (n := 2) (c_X8_at hG kX_169 hc4) wd_838 wd_541 wd_102 wd_542 (by decide +kernel) rfl ⟨Nat.le_of_ble_eq_true rfl, Nat.le_of_ble_eq_true rfl⟩ ⟨rfl, rfl⟩ rfl (Nat.le_of_ble_eq_true rfl) dX8_criesAsTold_53 ?_
      refine x_iload_n C 2 dX8_criesAsTold_56 rfl rfl ?_
      refine x_icmp_ne C 81 dX8_criesAsTold_57 rfl (fun hc => ?_) (fun hc => ?_)
      · replace h := x_itn hc h
        exact x_sub [0, 1, 2, 3] rfl (w_X8_criesAsTold_81 C hk21 ih x2 x3 x4 σ4 h)
      · replace h := x_itp hc h
        refine x_aload_n C 0 dX8_criesAsTold_60 rfl rfl ?_
        refine x_getRq C (k := 12) kX_0 (by decide) rfl x_in8 (by decide) (by decide) rfl rfl wd_555 rfX_0_12 dX8_criesAsTold_61 ?_
        refine x_iload C 3 dX8_criesAsTold_64 rfl ?_
        obtain ⟨v5, σ5, hc5, h⟩ := x_b_some h
        refine x_callS C (n := 2) (c_X8_at hG kX_170 hc5) wd_838 wd_541 wd_102 wd_542 (by decide +kernel) rfl ⟨Nat.le_of_ble_eq_true rfl, Nat.le_of_ble_eq_true rfl⟩ ⟨rfl, rfl⟩ rfl (Nat.le_of_ble_eq_true rfl) dX8_criesAsTold_66 ?_
        refine x_aload_n C 0 dX8_criesAsTold_69 rfl rfl ?_
        refine x_getRq C (k := 4) kX_0 (by decide) rfl x_in8 (by decide) (by decide) rfl rfl wd_547 rfX_0_4 dX8_criesAsTold_70 ?_
        refine x_getI C (k := 12) kX_37 (by decide) rfl x_in5 (by decide) (by decide) rfl rfl wd_341 dX8_criesAsTold_73 ?_
        refine x_icmp_eq C 81 dX8_criesAsTold_76 rfl (fun hc => ?_) (fun hc => ?_)
        · replace h := x_itp hc h
          exact x_sub [0, 1, 2, 3] rfl (w_X8_criesAsTold_81 C hk21 ih x2 x3 x4 σ5 h)
        · replace h := x_itn hc h
          refine x_iconst C (0 : Int32) dX8_criesAsTold_79 (by decide) ?_
          obtain ⟨rfl, rfl⟩ := x_ret h
          exact x_zret C rfl dX8_criesAsTold_80
set_option maxHeartbeats 4000000 in
set_option maxRecDepth 100000 in
theorem w_X8_criesAsTold_21 {r : Int32} {τ : x_Hp} (C : x_C p s m args meth c cX8_criesAsTold 5 (some .boolean) yX8_criesAsTold.cls TX G) : ∀ (n : Nat) (x2 : Int32) (x3 : Int32) (σ : x_Hp) (h : F_X8_criesAsTold_21 n x2 x3 σ = some (r, τ)), x_W p l e rm_X8_criesAsTold s m args below meth c (MQ below (x_Q TX G (some (.int r)) τ) args s 0 0 (x_A TX G)) TX G 5 21 [(0, .ref (x_ad G 0)), (2, .int x2), (3, .int x3)] [] σ := by
  intro n
  induction n with
  | zero => intro x2 x3 σ  h; cases h
  | succ n ih =>
    intro x2 x3 σ  h
    have hG : x_OK TX G := C.2.2.2.2.2.2.2.2.1
    rw [F_X8_criesAsTold_21] at h
    refine x_iload_n C 2 dX8_criesAsTold_21 rfl rfl ?_
    refine x_bipush C (60 : Int32) dX8_criesAsTold_22 (by decide) ?_
    refine x_icmp_ge C 93 dX8_criesAsTold_24 rfl (fun hc => ?_) (fun hc => ?_)
    · replace h := x_itp hc h
      refine x_iconst C (1 : Int32) dX8_criesAsTold_93 (by decide) ?_
      obtain ⟨rfl, rfl⟩ := x_ret h
      exact x_zret C rfl dX8_criesAsTold_94
    · replace h := x_itn hc h
      refine x_aload_n C 0 dX8_criesAsTold_27 rfl rfl ?_
      refine x_getRq C (k := 2) kX_0 (by decide) rfl x_in8 (by decide) (by decide) rfl rfl wd_545 rfX_0_2 dX8_criesAsTold_28 ?_
      refine x_aload_n C 0 dX8_criesAsTold_31 rfl rfl ?_
      refine x_getRq C (k := 4) kX_0 (by decide) rfl x_in8 (by decide) (by decide) rfl rfl wd_547 rfX_0_4 dX8_criesAsTold_32 ?_
      obtain ⟨v3, σ3, hc3, h⟩ := x_b_some h
      refine x_callV C (n := 1) (c_X0_step hG kX_34 kX_37 hc3) kX_34 (by decide) rfl wd_1119 wd_896 wd_897 wd_106 wd_898 (by decide +kernel) rfl ⟨Nat.le_of_ble_eq_true rfl, Nat.le_of_ble_eq_true rfl⟩ ⟨rfl, rfl⟩ rfl (Nat.le_of_ble_eq_true rfl) dX8_criesAsTold_35 ?_
      refine x_iconst C (0 : Int32) dX8_criesAsTold_38 (by decide) ?_
      refine x_istore C [(4, .int (0 : Int32)), (0, .ref (x_ad G 0)), (2, .int x2), (3, .int x3)] dX8_criesAsTold_39 (by decide) rfl ?_
      exact x_sub [1, 2, 3, 0] rfl (w_X8_criesAsTold_41 C ih x_fuel x2 x3 (0 : Int32) σ3 h)
set_option maxHeartbeats 4000000 in
set_option maxRecDepth 100000 in
theorem c_X8_criesAsTold (hG : x_OK TX G) {x1 : Int32} {x2 : Int32} {σ τ : x_Hp} {r : Int32} (h : F_X8_criesAsTold x1 x2 σ = some (r, τ)) : x_M l TX G yX8_criesAsTold cX8_criesAsTold 5 (some .boolean) rm_X8_criesAsTold [.ref (x_ad G 0), .int x1, .int x2] σ (some (.int r)) τ := by
  refine x_M.of hG (lv := [(0, .ref (x_ad G 0)), (1, .int x1), (2, .int x2)]) (by decide) (Nat.le_of_ble_eq_true rfl) rfl (fun p e s m below meth c C => ?_)
  rw [F_X8_criesAsTold] at h
  refine x_aload_n C 0 dX8_criesAsTold_0 rfl rfl ?_
  refine x_getRq C (k := 2) kX_0 (by decide) rfl x_in8 (by decide) (by decide) rfl rfl wd_545 rfX_0_2 dX8_criesAsTold_1 ?_
  refine x_aload_n C 0 dX8_criesAsTold_4 rfl rfl ?_
  refine x_getRq C (k := 4) kX_0 (by decide) rfl x_in8 (by decide) (by decide) rfl rfl wd_547 rfX_0_4 dX8_criesAsTold_5 ?_
  obtain ⟨v1, σ1, hc1, h⟩ := x_b_some h
  refine x_callV C (n := 1) (c_X0_begin hG kX_34 kX_37 hc1) kX_34 (by decide) rfl wd_532 wd_533 wd_534 wd_106 wd_535 (by decide +kernel) rfl ⟨Nat.le_of_ble_eq_true rfl, Nat.le_of_ble_eq_true rfl⟩ ⟨rfl, rfl⟩ rfl (Nat.le_of_ble_eq_true rfl) dX8_criesAsTold_8 ?_
  refine x_aload_n C 0 dX8_criesAsTold_11 rfl rfl ?_
  refine x_getRq C (k := 4) kX_0 (by decide) rfl x_in8 (by decide) (by decide) rfl rfl wd_547 rfX_0_4 dX8_criesAsTold_12 ?_
  refine x_iload_n C 1 dX8_criesAsTold_15 rfl rfl ?_
  refine x_putI C (k := 0) tyX5 kX_37 (by decide) rfl x_in5 tyX5_ok nmX5 (by decide) (by decide) rfl rfl wd_307 rfl (tyX5_ok 0 (by decide)) rfl rfl dX8_criesAsTold_16 (x_gen h fun σ2 h => ?_)
  refine x_iconst C (0 : Int32) dX8_criesAsTold_19 (by decide) ?_
  refine x_istore_n C [(3, .int (0 : Int32)), (0, .ref (x_ad G 0)), (1, .int x1), (2, .int x2)] dX8_criesAsTold_20 rfl (by decide) rfl ?_
  exact x_sub [1, 3, 0] rfl (w_X8_criesAsTold_21 C x_fuel x2 (0 : Int32) σ2 h)
abbrev rm_X8_fed : Room := { frames := 6, cells := 0, slots := 0, locals := 147 }
set_option maxHeartbeats 4000000 in
set_option maxRecDepth 100000 in
theorem w_X8_fed_52 {r : Int32} {τ : x_Hp} (C : x_C p s m args meth c cX8_fed 5 (some .int) yX8_fed.cls TX G) {k24 : Int32 → Int32 → Int32 → Int32 → x_Hp → Option (Int32 × x_Hp)} (hk24 : ∀ (x1 : Int32) (x2 : Int32) (x3 : Int32) (x4 : Int32) (σ : x_Hp) (h : k24 x1 x2 x3 x4 σ = some (r, τ)), x_W p l e rm_X8_fed s m args below meth c (MQ below (x_Q TX G (some (.int r)) τ) args s 0 0 (x_A TX G)) TX G 5 24 [(0, .ref (x_ad G 0)), (1, .int x1), (2, .int x2), (3, .int x3), (4, .int x4)] [] σ) (x1 : Int32) (x2 : Int32) (x3 : Int32) (x4 : Int32) (σ : x_Hp) (h : F_X8_fed_52 k24 x1 x2 x3 x4 σ = some (r, τ)) : x_W p l e rm_X8_fed s m args below meth c (MQ below (x_Q TX G (some (.int r)) τ) args s 0 0 (x_A TX G)) TX G 5 52 [(0, .ref (x_ad G 0)), (1, .int x1), (2, .int x2), (3, .int x3), (4, .int x4)] [] σ := by
  have hG : x_OK TX G := C.2.2.2.2.2.2.2.2.1
  rw [F_X8_fed_52] at h
  refine x_iinc C 4 (x4 + (1 : Int32)) [(4, .int (x4 + (1 : Int32))), (0, .ref (x_ad G 0)), (1, .int x1), (2, .int x2), (3, .int x3)] dX8_fed_52 rfl rfl (by decide) rfl ?_
  refine x_goto C 24 dX8_fed_55 rfl ?_
  exact x_sub [1, 2, 3, 4, 0] rfl (hk24 x1 x2 x3 (x4 + (1 : Int32)) σ h)
set_option maxHeartbeats 4000000 in
set_option maxRecDepth 100000 in
theorem w_X8_fed_24 {r : Int32} {τ : x_Hp} (C : x_C p s m args meth c cX8_fed 5 (some .int) yX8_fed.cls TX G) : ∀ (n : Nat) (x1 : Int32) (x2 : Int32) (x3 : Int32) (x4 : Int32) (σ : x_Hp) (h : F_X8_fed_24 n x1 x2 x3 x4 σ = some (r, τ)), x_W p l e rm_X8_fed s m args below meth c (MQ below (x_Q TX G (some (.int r)) τ) args s 0 0 (x_A TX G)) TX G 5 24 [(0, .ref (x_ad G 0)), (1, .int x1), (2, .int x2), (3, .int x3), (4, .int x4)] [] σ := by
  intro n
  induction n with
  | zero => intro x1 x2 x3 x4 σ  h; cases h
  | succ n ih =>
    intro x1 x2 x3 x4 σ  h
    have hG : x_OK TX G := C.2.2.2.2.2.2.2.2.1
    rw [F_X8_fed_24] at h
    refine x_iload C 4 dX8_fed_24 rfl ?_
    refine x_bipush C (99 : Int32) dX8_fed_26 (by decide) ?_
    refine x_icmp_gt C 58 dX8_fed_28 rfl (fun hc => ?_) (fun hc => ?_)
    · replace h := x_itp hc h
      refine x_iload_n C 2 dX8_fed_58 rfl rfl ?_
      refine x_iconst C (-1 : Int32) dX8_fed_59 (by decide) ?_
      refine x_icmp_ne C 67 dX8_fed_60 rfl (fun hc => ?_) (fun hc => ?_)
      · replace h := x_itn hc h
        refine x_iconst C (-1 : Int32) dX8_fed_67 (by decide) ?_
        obtain ⟨rfl, rfl⟩ := x_ret h
        exact x_iret C dX8_fed_68
      · replace h := x_itp hc h
        refine x_iload_n C 3 dX8_fed_63 rfl rfl ?_
        refine x_goto C 68 dX8_fed_64 rfl ?_
        obtain ⟨rfl, rfl⟩ := x_ret h
        exact x_iret C dX8_fed_68
    · replace h := x_itn hc h
      refine x_aload_n C 0 dX8_fed_31 rfl rfl ?_
      refine x_iload C 4 dX8_fed_32 rfl ?_
      refine x_iload_n C 1 dX8_fed_34 rfl rfl ?_
      obtain ⟨v2, σ2, hc2, h⟩ := x_b_some h
      refine x_callV C (n := 2) (c_X8_criesAsTold hG hc2) kX_0 (by decide) rfl wd_1164 wd_1166 wd_45 wd_102 wd_1167 (by decide +kernel) rfl ⟨Nat.le_of_ble_eq_true rfl, Nat.le_of_ble_eq_true rfl⟩ ⟨rfl, rfl⟩ rfl (Nat.le_of_ble_eq_true rfl) dX8_fed_35 ?_
      refine x_if_eq C 52 dX8_fed_38 rfl (fun hc => ?_) (fun hc => ?_)
      · replace h := x_itp hc h
        exact x_sub [0, 1, 2, 3, 4] rfl (w_X8_fed_52 C ih x1 x2 x3 x4 σ2 h)
      · replace h := x_itn hc h
        refine x_iload_n C 3 dX8_fed_41 rfl rfl ?_
        refine x_iload_n C 2 dX8_fed_42 rfl rfl ?_
        refine x_icmp_ne C 49 dX8_fed_43 rfl (fun hc => ?_) (fun hc => ?_)
        · replace h := x_itn hc h
          refine x_iinc C 3 (x3 + (1 : Int32)) [(3, .int (x3 + (1 : Int32))), (0, .ref (x_ad G 0)), (1, .int x1), (2, .int x2), (4, .int x4)] dX8_fed_49 rfl rfl (by decide) rfl ?_
          exact x_sub [1, 2, 3, 0, 4] rfl (w_X8_fed_52 C ih x1 x2 (x3 + (1 : Int32)) x4 σ2 h)
        · replace h := x_itp hc h
          refine x_iload C 4 dX8_fed_46 rfl ?_
          obtain ⟨rfl, rfl⟩ := x_ret h
          exact x_iret C dX8_fed_48
set_option maxHeartbeats 4000000 in
set_option maxRecDepth 100000 in
theorem c_X8_fed (hG : x_OK TX G) {x1 : Int32} {x2 : Int32} {σ τ : x_Hp} {r : Int32} (h : F_X8_fed x1 x2 σ = some (r, τ)) : x_M l TX G yX8_fed cX8_fed 5 (some .int) rm_X8_fed [.ref (x_ad G 0), .int x1, .int x2] σ (some (.int r)) τ := by
  refine x_M.of hG (lv := [(0, .ref (x_ad G 0)), (1, .int x1), (2, .int x2)]) (by decide) (Nat.le_of_ble_eq_true rfl) rfl (fun p e s m below meth c C => ?_)
  rw [F_X8_fed] at h
  refine x_iload_n C 1 dX8_fed_0 rfl rfl ?_
  refine x_iconst C (0 : Int32) dX8_fed_1 (by decide) ?_
  refine x_aload_n C 0 dX8_fed_2 rfl rfl ?_
  refine x_getI C (k := 13) kX_0 (by decide) rfl x_in8 (by decide) (by decide) rfl rfl wd_556 dX8_fed_3 ?_
  obtain ⟨v1, σ1, hc1, h⟩ := x_b_some h
  refine x_callS C (n := 3) (c_X8_between hG hc1) wd_835 wd_836 wd_102 wd_837 (by decide +kernel) rfl ⟨Nat.le_of_ble_eq_true rfl, Nat.le_of_ble_eq_true rfl⟩ ⟨rfl, rfl⟩ rfl (Nat.le_of_ble_eq_true rfl) dX8_fed_6 ?_
  refine x_if_eq C 17 dX8_fed_9 rfl (fun hc => ?_) (fun hc => ?_)
  · replace h := x_itp hc h
    refine x_iconst C (-1 : Int32) dX8_fed_17 (by decide) ?_
    obtain ⟨rfl, rfl⟩ := x_ret h
    exact x_iret C dX8_fed_18
  · replace h := x_itn hc h
    refine x_iload_n C 2 dX8_fed_12 rfl rfl ?_
    refine x_iconst C (-1 : Int32) dX8_fed_13 (by decide) ?_
    refine x_icmp_ge C 19 dX8_fed_14 rfl (fun hc => ?_) (fun hc => ?_)
    · replace h := x_itp hc h
      refine x_iconst C (0 : Int32) dX8_fed_19 (by decide) ?_
      refine x_istore_n C [(3, .int (0 : Int32)), (0, .ref (x_ad G 0)), (1, .int x1), (2, .int x2)] dX8_fed_20 rfl (by decide) rfl ?_
      refine x_iconst C (0 : Int32) dX8_fed_21 (by decide) ?_
      refine x_istore C [(4, .int (0 : Int32)), (3, .int (0 : Int32)), (0, .ref (x_ad G 0)), (1, .int x1), (2, .int x2)] dX8_fed_22 (by decide) rfl ?_
      exact x_sub [2, 3, 4, 1, 0] rfl (w_X8_fed_24 C x_fuel x1 x2 (0 : Int32) (0 : Int32) σ1 h)
    · replace h := x_itn hc h
      refine x_iconst C (-1 : Int32) dX8_fed_17 (by decide) ?_
      obtain ⟨rfl, rfl⟩ := x_ret h
      exact x_iret C dX8_fed_18
abbrev rm_X8_hold : Room := { frames := 2, cells := 0, slots := 0, locals := 43 }
set_option maxHeartbeats 4000000 in
set_option maxRecDepth 100000 in
theorem c_X8_hold (hG : x_OK TX G) {x1 : Int32} {σ τ : x_Hp} {r : Int32} (h : F_X8_hold x1 σ = some (r, τ)) : x_M l TX G yX8_hold cX8_hold 2 (some .boolean) rm_X8_hold [.ref (x_ad G 0), .int x1] σ (some (.int r)) τ := by
  refine x_M.of hG (lv := [(0, .ref (x_ad G 0)), (1, .int x1)]) (by decide) (Nat.le_of_ble_eq_true rfl) rfl (fun p e s m below meth c C => ?_)
  rw [F_X8_hold] at h
  refine x_iload_n C 1 dX8_hold_0 rfl rfl ?_
  refine x_if_lt C 22 dX8_hold_1 rfl (fun hc => ?_) (fun hc => ?_)
  · replace h := x_itp hc h
    refine x_iconst C (0 : Int32) dX8_hold_22 (by decide) ?_
    obtain ⟨rfl, rfl⟩ := x_ret h
    exact x_zret C rfl dX8_hold_23
  · replace h := x_itn hc h
    refine x_iload_n C 1 dX8_hold_4 rfl rfl ?_
    refine x_aload_n C 0 dX8_hold_5 rfl rfl ?_
    refine x_getRq C (k := 6) kX_0 (by decide) rfl x_in8 (by decide) (by decide) rfl rfl wd_549 rfX_0_6 dX8_hold_6 ?_
    refine x_alen C (3 : Int32) kX_141 (by decide) (by rw [lnX_141]; rfl) dX8_hold_9 ?_
    refine x_icmp_ge C 22 dX8_hold_10 rfl (fun hc => ?_) (fun hc => ?_)
    · replace h := x_itp hc h
      refine x_iconst C (0 : Int32) dX8_hold_22 (by decide) ?_
      obtain ⟨rfl, rfl⟩ := x_ret h
      exact x_zret C rfl dX8_hold_23
    · replace h := x_itn hc h
      refine x_aload_n C 0 dX8_hold_13 rfl rfl ?_
      refine x_getRq C (k := 6) kX_0 (by decide) rfl x_in8 (by decide) (by decide) rfl rfl wd_549 rfX_0_6 dX8_hold_14 ?_
      refine x_iload_n C 1 dX8_hold_17 rfl rfl ?_
      obtain ⟨hi1, h⟩ := x_gd_some h
      refine x_aldq C kX_141 (x_inl lnX_141 hi1) dX8_hold_18 ?_
      refine x_ifnonnull C 24 dX8_hold_19 rfl ?_
      refine x_aload_n C 0 dX8_hold_24 rfl rfl ?_
      refine x_getRq C (k := 6) kX_0 (by decide) rfl x_in8 (by decide) (by decide) rfl rfl wd_549 rfX_0_6 dX8_hold_25 ?_
      refine x_iload_n C 1 dX8_hold_28 rfl rfl ?_
      obtain ⟨hi2, h⟩ := x_gd_some h
      refine x_aldq C kX_141 (x_inl lnX_141 hi2) dX8_hold_29 ?_
      refine x_aload_n C 0 dX8_hold_30 rfl rfl ?_
      refine x_getRq C (k := 3) kX_0 (by decide) rfl x_in8 (by decide) (by decide) rfl rfl wd_546 rfX_0_3 dX8_hold_31 ?_
      obtain ⟨v3, σ3, hc3, h⟩ := x_b_some h
      refine x_callV C (n := 1) (c_X5_takeFrom hG (t_TX_el kX_141 (x_inl lnX_141 hi2)) kX_35 hc3) (t_TX_el kX_141 (x_inl lnX_141 hi2)) (by decide) rfl wd_971 wd_886 wd_887 wd_107 wd_888 (by decide +kernel) rfl ⟨Nat.le_of_ble_eq_true rfl, Nat.le_of_ble_eq_true rfl⟩ ⟨rfl, rfl⟩ rfl (Nat.le_of_ble_eq_true rfl) dX8_hold_34 ?_
      refine x_aload_n C 0 dX8_hold_37 rfl rfl ?_
      refine x_getRq C (k := 7) kX_0 (by decide) rfl x_in8 (by decide) (by decide) rfl rfl wd_550 rfX_0_7 dX8_hold_38 ?_
      refine x_iload_n C 1 dX8_hold_41 rfl rfl ?_
      refine x_iconst C (1 : Int32) dX8_hold_42 (by decide) ?_
      obtain ⟨v4, σ4, hc4, h⟩ := x_b_some h
      refine x_callS C (n := 3) (c_X8_put hG kX_142 hc4) wd_817 wd_522 wd_102 wd_523 (by decide +kernel) rfl ⟨Nat.le_of_ble_eq_true rfl, Nat.le_of_ble_eq_true rfl⟩ ⟨rfl, rfl⟩ rfl (Nat.le_of_ble_eq_true rfl) dX8_hold_43 ?_
      refine x_iconst C (1 : Int32) dX8_hold_46 (by decide) ?_
      obtain ⟨rfl, rfl⟩ := x_ret h
      exact x_zret C rfl dX8_hold_47
abbrev rm_X8_restore : Room := { frames := 2, cells := 0, slots := 0, locals := 43 }
set_option maxHeartbeats 4000000 in
set_option maxRecDepth 100000 in
theorem c_X8_restore (hG : x_OK TX G) {x1 : Int32} {σ τ : x_Hp} {r : Int32} (h : F_X8_restore x1 σ = some (r, τ)) : x_M l TX G yX8_restore cX8_restore 2 (some .boolean) rm_X8_restore [.ref (x_ad G 0), .int x1] σ (some (.int r)) τ := by
  refine x_M.of hG (lv := [(0, .ref (x_ad G 0)), (1, .int x1)]) (by decide) (Nat.le_of_ble_eq_true rfl) rfl (fun p e s m below meth c C => ?_)
  rw [F_X8_restore] at h
  refine x_iload_n C 1 dX8_restore_0 rfl rfl ?_
  refine x_if_lt C 24 dX8_restore_1 rfl (fun hc => ?_) (fun hc => ?_)
  · replace h := x_itp hc h
    refine x_iconst C (0 : Int32) dX8_restore_24 (by decide) ?_
    obtain ⟨rfl, rfl⟩ := x_ret h
    exact x_zret C rfl dX8_restore_25
  · replace h := x_itn hc h
    refine x_iload_n C 1 dX8_restore_4 rfl rfl ?_
    refine x_aload_n C 0 dX8_restore_5 rfl rfl ?_
    refine x_getRq C (k := 6) kX_0 (by decide) rfl x_in8 (by decide) (by decide) rfl rfl wd_549 rfX_0_6 dX8_restore_6 ?_
    refine x_alen C (3 : Int32) kX_141 (by decide) (by rw [lnX_141]; rfl) dX8_restore_9 ?_
    refine x_icmp_ge C 24 dX8_restore_10 rfl (fun hc => ?_) (fun hc => ?_)
    · replace h := x_itp hc h
      refine x_iconst C (0 : Int32) dX8_restore_24 (by decide) ?_
      obtain ⟨rfl, rfl⟩ := x_ret h
      exact x_zret C rfl dX8_restore_25
    · replace h := x_itn hc h
      refine x_aload_n C 0 dX8_restore_13 rfl rfl ?_
      refine x_getRq C (k := 7) kX_0 (by decide) rfl x_in8 (by decide) (by decide) rfl rfl wd_550 rfX_0_7 dX8_restore_14 ?_
      refine x_iload_n C 1 dX8_restore_17 rfl rfl ?_
      obtain ⟨v1, σ1, hc1, h⟩ := x_b_some h
      refine x_callS C (n := 2) (c_X8_at hG kX_142 hc1) wd_838 wd_541 wd_102 wd_542 (by decide +kernel) rfl ⟨Nat.le_of_ble_eq_true rfl, Nat.le_of_ble_eq_true rfl⟩ ⟨rfl, rfl⟩ rfl (Nat.le_of_ble_eq_true rfl) dX8_restore_18 ?_
      refine x_if_ne C 26 dX8_restore_21 rfl (fun hc => ?_) (fun hc => ?_)
      · replace h := x_itn hc h
        refine x_aload_n C 0 dX8_restore_26 rfl rfl ?_
        refine x_getRq C (k := 3) kX_0 (by decide) rfl x_in8 (by decide) (by decide) rfl rfl wd_546 rfX_0_3 dX8_restore_27 ?_
        refine x_aload_n C 0 dX8_restore_30 rfl rfl ?_
        refine x_getRq C (k := 6) kX_0 (by decide) rfl x_in8 (by decide) (by decide) rfl rfl wd_549 rfX_0_6 dX8_restore_31 ?_
        refine x_iload_n C 1 dX8_restore_34 rfl rfl ?_
        obtain ⟨hi2, h⟩ := x_gd_some h
        refine x_aldq C kX_141 (x_inl lnX_141 hi2) dX8_restore_35 ?_
        obtain ⟨v3, σ3, hc3, h⟩ := x_b_some h
        refine x_callV C (n := 1) (c_X5_takeFrom hG kX_35 (t_TX_el kX_141 (x_inl lnX_141 hi2)) hc3) kX_35 (by decide) rfl wd_971 wd_886 wd_887 wd_107 wd_888 (by decide +kernel) rfl ⟨Nat.le_of_ble_eq_true rfl, Nat.le_of_ble_eq_true rfl⟩ ⟨rfl, rfl⟩ rfl (Nat.le_of_ble_eq_true rfl) dX8_restore_36 ?_
        refine x_aload_n C 0 dX8_restore_39 rfl rfl ?_
        refine x_getRq C (k := 5) kX_0 (by decide) rfl x_in8 (by decide) (by decide) rfl rfl wd_548 rfX_0_5 dX8_restore_40 ?_
        obtain ⟨v4, σ4, hc4, h⟩ := x_b_some h
        refine x_callV C (n := 0) (c_X7_begin hG hc4) kX_39 (by decide) rfl wd_813 wd_814 wd_815 wd_108 wd_816 (by decide +kernel) rfl ⟨Nat.le_of_ble_eq_true rfl, Nat.le_of_ble_eq_true rfl⟩ ⟨rfl, rfl⟩ rfl (Nat.le_of_ble_eq_true rfl) dX8_restore_43 ?_
        refine x_iconst C (1 : Int32) dX8_restore_46 (by decide) ?_
        obtain ⟨rfl, rfl⟩ := x_ret h
        exact x_zret C rfl dX8_restore_47
      · replace h := x_itp hc h
        refine x_iconst C (0 : Int32) dX8_restore_24 (by decide) ?_
        obtain ⟨rfl, rfl⟩ := x_ret h
        exact x_zret C rfl dX8_restore_25
abbrev rm_X8_count : Room := { frames := 3, cells := 0, slots := 0, locals := 66 }
set_option maxHeartbeats 4000000 in
set_option maxRecDepth 100000 in
theorem c_X8_count (hG : x_OK TX G) {x1 : Int32} {σ τ : x_Hp} {r : Int32} (h : F_X8_count x1 σ = some (r, τ)) : x_M l TX G yX8_count cX8_count 2 (some .int) rm_X8_count [.ref (x_ad G 0), .int x1] σ (some (.int r)) τ := by
  refine x_M.of hG (lv := [(0, .ref (x_ad G 0)), (1, .int x1)]) (by decide) (Nat.le_of_ble_eq_true rfl) rfl (fun p e s m below meth c C => ?_)
  rw [F_X8_count] at h
  refine x_iload_n C 1 dX8_count_0 rfl rfl ?_
  by_cases hw0 : x1 = (0 : Int32)
  · replace h := x_itp hw0 h
    refine x_ts_at C (0 : Int32) (71) 72 dX8_count_1 hw0 (by decide +kernel) (by decide +kernel) (by decide +kernel) rfl ?_
    refine x_aload_n C 0 dX8_count_72 rfl rfl ?_
    refine x_getRq C (k := 0) kX_0 (by decide) rfl x_in8 (by decide) (by decide) rfl rfl wd_543 rfX_0_0 dX8_count_73 ?_
    refine x_getI C (k := 7) kX_1 (by decide) rfl x_in6 (by decide) (by decide) rfl rfl wd_187 dX8_count_76 ?_
    obtain ⟨rfl, rfl⟩ := x_ret h
    exact x_iret C dX8_count_79
  replace h := x_itn hw0 h
  by_cases hw1 : x1 = (1 : Int32)
  · replace h := x_itp hw1 h
    refine x_ts_at C (1 : Int32) (79) 80 dX8_count_1 hw1 (by decide +kernel) (by decide +kernel) (by decide +kernel) rfl ?_
    refine x_aload_n C 0 dX8_count_80 rfl rfl ?_
    refine x_getRq C (k := 3) kX_0 (by decide) rfl x_in8 (by decide) (by decide) rfl rfl wd_546 rfX_0_3 dX8_count_81 ?_
    refine x_getI C (k := 15) kX_35 (by decide) rfl x_in5 (by decide) (by decide) rfl rfl wd_350 dX8_count_84 ?_
    obtain ⟨rfl, rfl⟩ := x_ret h
    exact x_iret C dX8_count_87
  replace h := x_itn hw1 h
  by_cases hw2 : x1 = (2 : Int32)
  · replace h := x_itp hw2 h
    refine x_ts_at C (2 : Int32) (87) 88 dX8_count_1 hw2 (by decide +kernel) (by decide +kernel) (by decide +kernel) rfl ?_
    refine x_aload_n C 0 dX8_count_88 rfl rfl ?_
    refine x_getRq C (k := 3) kX_0 (by decide) rfl x_in8 (by decide) (by decide) rfl rfl wd_546 rfX_0_3 dX8_count_89 ?_
    refine x_iconst C (1 : Int32) dX8_count_92 (by decide) ?_
    obtain ⟨v1, σ1, hc1, h⟩ := x_b_some h
    refine x_callV C (n := 1) (c_X5_allTallied hG kX_35 hc1) kX_35 (by decide) rfl wd_1093 wd_977 wd_978 wd_107 wd_979 (by decide +kernel) rfl ⟨Nat.le_of_ble_eq_true rfl, Nat.le_of_ble_eq_true rfl⟩ ⟨rfl, rfl⟩ rfl (Nat.le_of_ble_eq_true rfl) dX8_count_93 ?_
    obtain ⟨rfl, rfl⟩ := x_ret h
    exact x_iret C dX8_count_96
  replace h := x_itn hw2 h
  by_cases hw3 : x1 = (3 : Int32)
  · replace h := x_itp hw3 h
    refine x_ts_at C (3 : Int32) (96) 97 dX8_count_1 hw3 (by decide +kernel) (by decide +kernel) (by decide +kernel) rfl ?_
    refine x_aload_n C 0 dX8_count_97 rfl rfl ?_
    refine x_getRq C (k := 3) kX_0 (by decide) rfl x_in8 (by decide) (by decide) rfl rfl wd_546 rfX_0_3 dX8_count_98 ?_
    refine x_iconst C (2 : Int32) dX8_count_101 (by decide) ?_
    obtain ⟨v2, σ2, hc2, h⟩ := x_b_some h
    refine x_callV C (n := 1) (c_X5_allTallied hG kX_35 hc2) kX_35 (by decide) rfl wd_1093 wd_977 wd_978 wd_107 wd_979 (by decide +kernel) rfl ⟨Nat.le_of_ble_eq_true rfl, Nat.le_of_ble_eq_true rfl⟩ ⟨rfl, rfl⟩ rfl (Nat.le_of_ble_eq_true rfl) dX8_count_102 ?_
    obtain ⟨rfl, rfl⟩ := x_ret h
    exact x_iret C dX8_count_105
  replace h := x_itn hw3 h
  by_cases hw4 : x1 = (4 : Int32)
  · replace h := x_itp hw4 h
    refine x_ts_at C (4 : Int32) (105) 106 dX8_count_1 hw4 (by decide +kernel) (by decide +kernel) (by decide +kernel) rfl ?_
    refine x_aload_n C 0 dX8_count_106 rfl rfl ?_
    refine x_getRq C (k := 3) kX_0 (by decide) rfl x_in8 (by decide) (by decide) rfl rfl wd_546 rfX_0_3 dX8_count_107 ?_
    refine x_iconst C (4 : Int32) dX8_count_110 (by decide) ?_
    obtain ⟨v3, σ3, hc3, h⟩ := x_b_some h
    refine x_callV C (n := 1) (c_X5_allTallied hG kX_35 hc3) kX_35 (by decide) rfl wd_1093 wd_977 wd_978 wd_107 wd_979 (by decide +kernel) rfl ⟨Nat.le_of_ble_eq_true rfl, Nat.le_of_ble_eq_true rfl⟩ ⟨rfl, rfl⟩ rfl (Nat.le_of_ble_eq_true rfl) dX8_count_111 ?_
    obtain ⟨rfl, rfl⟩ := x_ret h
    exact x_iret C dX8_count_114
  replace h := x_itn hw4 h
  by_cases hw5 : x1 = (5 : Int32)
  · replace h := x_itp hw5 h
    refine x_ts_at C (5 : Int32) (114) 115 dX8_count_1 hw5 (by decide +kernel) (by decide +kernel) (by decide +kernel) rfl ?_
    refine x_aload_n C 0 dX8_count_115 rfl rfl ?_
    refine x_getRq C (k := 3) kX_0 (by decide) rfl x_in8 (by decide) (by decide) rfl rfl wd_546 rfX_0_3 dX8_count_116 ?_
    refine x_getI C (k := 17) kX_35 (by decide) rfl x_in5 (by decide) (by decide) rfl rfl wd_357 dX8_count_119 ?_
    obtain ⟨rfl, rfl⟩ := x_ret h
    exact x_iret C dX8_count_122
  replace h := x_itn hw5 h
  by_cases hw6 : x1 = (6 : Int32)
  · replace h := x_itp hw6 h
    refine x_ts_at C (6 : Int32) (122) 123 dX8_count_1 hw6 (by decide +kernel) (by decide +kernel) (by decide +kernel) rfl ?_
    refine x_aload_n C 0 dX8_count_123 rfl rfl ?_
    refine x_getRq C (k := 3) kX_0 (by decide) rfl x_in8 (by decide) (by decide) rfl rfl wd_546 rfX_0_3 dX8_count_124 ?_
    refine x_getI C (k := 18) kX_35 (by decide) rfl x_in5 (by decide) (by decide) rfl rfl wd_360 dX8_count_127 ?_
    obtain ⟨rfl, rfl⟩ := x_ret h
    exact x_iret C dX8_count_130
  replace h := x_itn hw6 h
  by_cases hw7 : x1 = (7 : Int32)
  · replace h := x_itp hw7 h
    refine x_ts_at C (7 : Int32) (130) 131 dX8_count_1 hw7 (by decide +kernel) (by decide +kernel) (by decide +kernel) rfl ?_
    refine x_aload_n C 0 dX8_count_131 rfl rfl ?_
    refine x_getRq C (k := 1) kX_0 (by decide) rfl x_in8 (by decide) (by decide) rfl rfl wd_544 rfX_0_1 dX8_count_132 ?_
    refine x_getI C (k := 1) kX_14 (by decide) rfl x_in4 (by decide) (by decide) rfl rfl wd_246 dX8_count_135 ?_
    obtain ⟨rfl, rfl⟩ := x_ret h
    exact x_iret C dX8_count_138
  replace h := x_itn hw7 h
  by_cases hw8 : x1 = (8 : Int32)
  · replace h := x_itp hw8 h
    refine x_ts_at C (8 : Int32) (138) 139 dX8_count_1 hw8 (by decide +kernel) (by decide +kernel) (by decide +kernel) rfl ?_
    refine x_aload_n C 0 dX8_count_139 rfl rfl ?_
    refine x_getRq C (k := 5) kX_0 (by decide) rfl x_in8 (by decide) (by decide) rfl rfl wd_548 rfX_0_5 dX8_count_140 ?_
    refine x_getI C (k := 1) kX_39 (by decide) rfl x_in7 (by decide) (by decide) rfl rfl wd_420 dX8_count_143 ?_
    obtain ⟨rfl, rfl⟩ := x_ret h
    exact x_iret C dX8_count_146
  replace h := x_itn hw8 h
  by_cases hw9 : x1 = (9 : Int32)
  · replace h := x_itp hw9 h
    refine x_ts_at C (9 : Int32) (146) 147 dX8_count_1 hw9 (by decide +kernel) (by decide +kernel) (by decide +kernel) rfl ?_
    refine x_aload_n C 0 dX8_count_147 rfl rfl ?_
    refine x_getI C (k := 13) kX_0 (by decide) rfl x_in8 (by decide) (by decide) rfl rfl wd_556 dX8_count_148 ?_
    obtain ⟨rfl, rfl⟩ := x_ret h
    exact x_iret C dX8_count_151
  replace h := x_itn hw9 h
  by_cases hw10 : x1 = (10 : Int32)
  · replace h := x_itp hw10 h
    refine x_ts_at C (10 : Int32) (151) 152 dX8_count_1 hw10 (by decide +kernel) (by decide +kernel) (by decide +kernel) rfl ?_
    refine x_aload_n C 0 dX8_count_152 rfl rfl ?_
    refine x_getRq C (k := 7) kX_0 (by decide) rfl x_in8 (by decide) (by decide) rfl rfl wd_550 rfX_0_7 dX8_count_153 ?_
    refine x_iconst C (0 : Int32) dX8_count_156 (by decide) ?_
    obtain ⟨v4, σ4, hc4, h⟩ := x_b_some h
    refine x_callS C (n := 2) (c_X8_at hG kX_142 hc4) wd_838 wd_541 wd_102 wd_542 (by decide +kernel) rfl ⟨Nat.le_of_ble_eq_true rfl, Nat.le_of_ble_eq_true rfl⟩ ⟨rfl, rfl⟩ rfl (Nat.le_of_ble_eq_true rfl) dX8_count_157 ?_
    refine x_aload_n C 0 dX8_count_160 rfl rfl ?_
    refine x_getRq C (k := 7) kX_0 (by decide) rfl x_in8 (by decide) (by decide) rfl rfl wd_550 rfX_0_7 dX8_count_161 ?_
    refine x_iconst C (1 : Int32) dX8_count_164 (by decide) ?_
    obtain ⟨v5, σ5, hc5, h⟩ := x_b_some h
    refine x_callS C (n := 2) (c_X8_at hG kX_142 hc5) wd_838 wd_541 wd_102 wd_542 (by decide +kernel) rfl ⟨Nat.le_of_ble_eq_true rfl, Nat.le_of_ble_eq_true rfl⟩ ⟨rfl, rfl⟩ rfl (Nat.le_of_ble_eq_true rfl) dX8_count_165 ?_
    refine x_iadd C dX8_count_168 ?_
    refine x_aload_n C 0 dX8_count_169 rfl rfl ?_
    refine x_getRq C (k := 7) kX_0 (by decide) rfl x_in8 (by decide) (by decide) rfl rfl wd_550 rfX_0_7 dX8_count_170 ?_
    refine x_iconst C (2 : Int32) dX8_count_173 (by decide) ?_
    obtain ⟨v6, σ6, hc6, h⟩ := x_b_some h
    refine x_callS C (n := 2) (c_X8_at hG kX_142 hc6) wd_838 wd_541 wd_102 wd_542 (by decide +kernel) rfl ⟨Nat.le_of_ble_eq_true rfl, Nat.le_of_ble_eq_true rfl⟩ ⟨rfl, rfl⟩ rfl (Nat.le_of_ble_eq_true rfl) dX8_count_174 ?_
    refine x_iadd C dX8_count_177 ?_
    obtain ⟨rfl, rfl⟩ := x_ret h
    exact x_iret C dX8_count_178
  replace h := x_itn hw10 h
  by_cases hw11 : x1 = (11 : Int32)
  · replace h := x_itp hw11 h
    refine x_ts_at C (11 : Int32) (178) 179 dX8_count_1 hw11 (by decide +kernel) (by decide +kernel) (by decide +kernel) rfl ?_
    refine x_aload_n C 0 dX8_count_179 rfl rfl ?_
    refine x_getRq C (k := 0) kX_0 (by decide) rfl x_in8 (by decide) (by decide) rfl rfl wd_543 rfX_0_0 dX8_count_180 ?_
    refine x_getI C (k := 4) kX_1 (by decide) rfl x_in6 (by decide) (by decide) rfl rfl wd_175 dX8_count_183 ?_
    obtain ⟨rfl, rfl⟩ := x_ret h
    exact x_iret C dX8_count_186
  replace h := x_itn hw11 h
  by_cases hw12 : x1 = (12 : Int32)
  · replace h := x_itp hw12 h
    refine x_ts_at C (12 : Int32) (186) 187 dX8_count_1 hw12 (by decide +kernel) (by decide +kernel) (by decide +kernel) rfl ?_
    refine x_aload_n C 0 dX8_count_187 rfl rfl ?_
    refine x_getRq C (k := 0) kX_0 (by decide) rfl x_in8 (by decide) (by decide) rfl rfl wd_543 rfX_0_0 dX8_count_188 ?_
    refine x_getI C (k := 5) kX_1 (by decide) rfl x_in6 (by decide) (by decide) rfl rfl wd_179 dX8_count_191 ?_
    obtain ⟨rfl, rfl⟩ := x_ret h
    exact x_iret C dX8_count_194
  replace h := x_itn hw12 h
  by_cases hw13 : x1 = (13 : Int32)
  · replace h := x_itp hw13 h
    refine x_ts_at C (13 : Int32) (194) 195 dX8_count_1 hw13 (by decide +kernel) (by decide +kernel) (by decide +kernel) rfl ?_
    refine x_aload_n C 0 dX8_count_195 rfl rfl ?_
    refine x_getRq C (k := 3) kX_0 (by decide) rfl x_in8 (by decide) (by decide) rfl rfl wd_546 rfX_0_3 dX8_count_196 ?_
    refine x_getI C (k := 19) kX_35 (by decide) rfl x_in5 (by decide) (by decide) rfl rfl wd_363 dX8_count_199 ?_
    obtain ⟨rfl, rfl⟩ := x_ret h
    exact x_iret C dX8_count_202
  replace h := x_itn hw13 h
  refine x_ts_out C 203 dX8_count_1 (by have q0 := x_tne (k := 0) (by decide +kernel) hw0; have q1 := x_tne (k := 1) (by decide +kernel) hw1; have q2 := x_tne (k := 2) (by decide +kernel) hw2; have q3 := x_tne (k := 3) (by decide +kernel) hw3; have q4 := x_tne (k := 4) (by decide +kernel) hw4; have q5 := x_tne (k := 5) (by decide +kernel) hw5; have q6 := x_tne (k := 6) (by decide +kernel) hw6; have q7 := x_tne (k := 7) (by decide +kernel) hw7; have q8 := x_tne (k := 8) (by decide +kernel) hw8; have q9 := x_tne (k := 9) (by decide +kernel) hw9; have q10 := x_tne (k := 10) (by decide +kernel) hw10; have q11 := x_tne (k := 11) (by decide +kernel) hw11; have q12 := x_tne (k := 12) (by decide +kernel) hw12; have q13 := x_tne (k := 13) (by decide +kernel) hw13; omega) rfl ?_
  refine x_iconst C (-1 : Int32) dX8_count_203 (by decide) ?_
  obtain ⟨rfl, rfl⟩ := x_ret h
  exact x_iret C dX8_count_204
end WW
