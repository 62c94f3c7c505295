section ZI
variable {l : Launch} {D : va_G} {iC : Nat → ClassId} {b0 : Nat} {Z : State → Prop} {rq : zw_R} {σ : x_Hp}
def zr_X1_8 (rq : zw_R) : zw_R := (zw_u (zw_u (zw_u (zw_u (zw_u rq 8 0 9) 8 2 10) 8 4 11) 8 5 12) 8 6 13)
def zs_X1_8 (σ : x_Hp) : x_Hp := σ
abbrev rm_zX1_8 : Room := { frames := 1, cells := 5, slots := 894, locals := 12 }
set_option maxHeartbeats 4000000 in
set_option maxRecDepth 100000 in
theorem zc_X1_8 (hZ : zw_OK b0 Z) : zw_M l D iC TX b0 Z yX1_init cX1_init 1 rm_zX1_8 5 894 [.inl (some (8))] 9 rq σ 14 (zr_X1_8 rq) (zs_X1_8 σ) := by
  refine zw_M.of hZ (lv := [(0, .inl (some (8)))]) (by decide) rfl (fun _ => Nat.le_of_ble_eq_true rfl) (fun _ => rfl) (fun hc0 => ?_) (fun ad0 p e s m args below meth c C => ?_)
  · have hc1 := zw_clN hc0
    have hc2 := zw_clU (o := 8) (k := 0) (j := 9) hc1 (by omega) (by omega)
    have hc3 := zw_clN hc2
    have hc4 := zw_clU (o := 8) (k := 2) (j := 10) hc3 (by omega) (by omega)
    have hc5 := zw_clN hc4
    have hc6 := zw_clU (o := 8) (k := 4) (j := 11) hc5 (by omega) (by omega)
    have hc7 := zw_clN hc6
    have hc8 := zw_clU (o := 8) (k := 5) (j := 12) hc7 (by omega) (by omega)
    have hc9 := zw_clN hc8
    have hc10 := zw_clU (o := 8) (k := 6) (j := 13) hc9 (by omega) (by omega)
    exact ⟨by omega, hc10⟩
  · refine zw_aload C 0 dX1_init_0 rfl ?_
    refine zw_obj C (x_tb (i := 136) (by decide +kernel) rfl) (x_tb (i := 123) (by decide +kernel) rfl) (x_tb (i := 124) (by decide +kernel) rfl) ⟨Nat.le_of_ble_eq_true rfl, Nat.le_of_ble_eq_true rfl⟩ dX1_init_1 ?_
    refine zw_aload C 0 dX1_init_4 rfl ?_
    refine zw_sipush C (420 : Int32) dX1_init_5 (by decide) ?_
    refine zw_newa C (atype := .int) (ty := .int) (t0 := 2) (N' := 420) (a0 := (420, .inl (fun _ => 0))) rfl (x_tb (i := 163) (by decide +kernel) rfl) rfl (fun ad rq hc => zw_E0i (kk := 12) hc (by decide +kernel) (by decide +kernel) (by decide)) (fun _ => rfl) (by decide) (by decide) (Nat.le_of_ble_eq_true rfl) (by simp [zw_b] <;> omega) (by simp [zw_b] <;> omega) ⟨Nat.le_of_ble_eq_true rfl, Nat.le_of_ble_eq_true rfl⟩ dX1_init_8 ?_
    refine zw_putR C (ci := 1) (f := 0) tyX1 (by decide +kernel) (by decide) rfl x_in1 tyX1_ok nmX1 (by decide) (by decide) rfl rfl (x_tb (i := 137) (by decide +kernel) rfl) rfl rfl (tyX1_ok 0 (by decide)) (fun _ => rfl) (fun _ => rfl) (by omega) (by omega) dX1_init_10 ?_
    refine zw_aload C 0 dX1_init_13 rfl ?_
    refine zw_sipush C (420 : Int32) dX1_init_14 (by decide) ?_
    refine zw_newa C (atype := .int) (ty := .int) (t0 := 2) (N' := 420) (a0 := (420, .inl (fun _ => 0))) rfl (x_tb (i := 163) (by decide +kernel) rfl) rfl (fun ad rq hc => zw_E0i (kk := 12) hc (by decide +kernel) (by decide +kernel) (by decide)) (fun _ => rfl) (by decide) (by decide) (Nat.le_of_ble_eq_true rfl) (by simp [zw_b] <;> omega) (by simp [zw_b] <;> omega) ⟨Nat.le_of_ble_eq_true rfl, Nat.le_of_ble_eq_true rfl⟩ dX1_init_17 ?_
    refine zw_putR C (ci := 1) (f := 2) tyX1 (by decide +kernel) (by decide) rfl x_in1 tyX1_ok nmX1 (by decide) (by decide) rfl rfl (x_tb (i := 139) (by decide +kernel) rfl) rfl rfl (tyX1_ok 2 (by decide)) (fun _ => rfl) (fun _ => rfl) (by omega) (by omega) dX1_init_19 ?_
    refine zw_aload C 0 dX1_init_22 rfl ?_
    refine zw_bipush C (7 : Int32) dX1_init_23 (by decide) ?_
    refine zw_newa C (atype := .int) (ty := .int) (t0 := 2) (N' := 7) (a0 := (7, .inl (fun _ => 0))) rfl (x_tb (i := 163) (by decide +kernel) rfl) rfl (fun ad rq hc => zw_E0i (kk := 12) hc (by decide +kernel) (by decide +kernel) (by decide)) (fun _ => rfl) (by decide) (by decide) (Nat.le_of_ble_eq_true rfl) (by simp [zw_b] <;> omega) (by simp [zw_b] <;> omega) ⟨Nat.le_of_ble_eq_true rfl, Nat.le_of_ble_eq_true rfl⟩ dX1_init_25 ?_
    refine zw_putR C (ci := 1) (f := 4) tyX1 (by decide +kernel) (by decide) rfl x_in1 tyX1_ok nmX1 (by decide) (by decide) rfl rfl (x_tb (i := 141) (by decide +kernel) rfl) rfl rfl (tyX1_ok 4 (by decide)) (fun _ => rfl) (fun _ => rfl) (by omega) (by omega) dX1_init_27 ?_
    refine zw_aload C 0 dX1_init_30 rfl ?_
    refine zw_bipush C (7 : Int32) dX1_init_31 (by decide) ?_
    refine zw_newa C (atype := .int) (ty := .int) (t0 := 2) (N' := 7) (a0 := (7, .inl (fun _ => 0))) rfl (x_tb (i := 163) (by decide +kernel) rfl) rfl (fun ad rq hc => zw_E0i (kk := 12) hc (by decide +kernel) (by decide +kernel) (by decide)) (fun _ => rfl) (by decide) (by decide) (Nat.le_of_ble_eq_true rfl) (by simp [zw_b] <;> omega) (by simp [zw_b] <;> omega) ⟨Nat.le_of_ble_eq_true rfl, Nat.le_of_ble_eq_true rfl⟩ dX1_init_33 ?_
    refine zw_putR C (ci := 1) (f := 5) tyX1 (by decide +kernel) (by decide) rfl x_in1 tyX1_ok nmX1 (by decide) (by decide) rfl rfl (x_tb (i := 142) (by decide +kernel) rfl) rfl rfl (tyX1_ok 5 (by decide)) (fun _ => rfl) (fun _ => rfl) (by omega) (by omega) dX1_init_35 ?_
    refine zw_aload C 0 dX1_init_38 rfl ?_
    refine zw_bipush C (40 : Int32) dX1_init_39 (by decide) ?_
    refine zw_newa C (atype := .int) (ty := .int) (t0 := 2) (N' := 40) (a0 := (40, .inl (fun _ => 0))) rfl (x_tb (i := 163) (by decide +kernel) rfl) rfl (fun ad rq hc => zw_E0i (kk := 12) hc (by decide +kernel) (by decide +kernel) (by decide)) (fun _ => rfl) (by decide) (by decide) (Nat.le_of_ble_eq_true rfl) (by simp [zw_b] <;> omega) (by simp [zw_b] <;> omega) ⟨Nat.le_of_ble_eq_true rfl, Nat.le_of_ble_eq_true rfl⟩ dX1_init_41 ?_
    refine zw_putR C (ci := 1) (f := 6) tyX1 (by decide +kernel) (by decide) rfl x_in1 tyX1_ok nmX1 (by decide) (by decide) rfl rfl (x_tb (i := 143) (by decide +kernel) rfl) rfl rfl (tyX1_ok 6 (by decide)) (fun _ => rfl) (fun _ => rfl) (by omega) (by omega) dX1_init_43 ?_
    exact zw_vret C dX1_init_46
def zr_X6_1 (rq : zw_R) : zw_R := (zw_u (zr_X1_8 (zw_u (zw_u (zw_u (zw_u (zw_u (zw_u rq 1 8 2) 1 9 3) 1 10 4) 1 11 5) 1 12 6) 1 13 7)) 1 14 8)
def zs_X6_1 (σ : x_Hp) : x_Hp := (zs_X1_8 σ)
abbrev rm_zX6_1 : Room := { frames := 2, cells := 12, slots := 938, locals := 32 }
set_option maxHeartbeats 4000000 in
set_option maxRecDepth 100000 in
theorem zc_X6_1 (hZ : zw_OK b0 Z) : zw_M l D iC TX b0 Z yX6_init cX6_init 1 rm_zX6_1 12 938 [.inl (some (1))] 2 rq σ 14 (zr_X6_1 rq) (zs_X6_1 σ) := by
  refine zw_M.of hZ (lv := [(0, .inl (some (1)))]) (by decide) rfl (fun _ => Nat.le_of_ble_eq_true rfl) (fun _ => rfl) (fun hc0 => ?_) (fun ad0 p e s m args below meth c C => ?_)
  · have hc1 := zw_clN hc0
    have hc2 := zw_clU (o := 1) (k := 8) (j := 2) hc1 (by omega) (by omega)
    have hc3 := zw_clN hc2
    have hc4 := zw_clU (o := 1) (k := 9) (j := 3) hc3 (by omega) (by omega)
    have hc5 := zw_clN hc4
    have hc6 := zw_clU (o := 1) (k := 10) (j := 4) hc5 (by omega) (by omega)
    have hc7 := zw_clN hc6
    have hc8 := zw_clU (o := 1) (k := 11) (j := 5) hc7 (by omega) (by omega)
    have hc9 := zw_clN hc8
    have hc10 := zw_clU (o := 1) (k := 12) (j := 6) hc9 (by omega) (by omega)
    have hc11 := zw_clN hc10
    have hc12 := zw_clU (o := 1) (k := 13) (j := 7) hc11 (by omega) (by omega)
    have hc13 := zw_clN hc12
    have hc14 := (((zc_X1_8 (l := l) (D := D) (iC := iC) hZ) hc13).1).2
    have hc15 := zw_clU (o := 1) (k := 14) (j := 8) hc14 (by omega) (by omega)
    exact ⟨by omega, hc15⟩
  · refine zw_aload C 0 dX6_init_0 rfl ?_
    refine zw_obj C (x_tb (i := 130) (by decide +kernel) rfl) (x_tb (i := 123) (by decide +kernel) rfl) (x_tb (i := 124) (by decide +kernel) rfl) ⟨Nat.le_of_ble_eq_true rfl, Nat.le_of_ble_eq_true rfl⟩ dX6_init_1 ?_
    refine zw_aload C 0 dX6_init_4 rfl ?_
    refine zw_bipush C (6 : Int32) dX6_init_5 (by decide) ?_
    refine zw_newa C (atype := .long) (ty := .long) (t0 := 3) (N' := 6) (a0 := (6, .inr (.inl (fun _ => 0)))) rfl (x_tb (i := 162) (by decide +kernel) rfl) rfl (fun ad rq hc => zw_E0l hc (by decide +kernel) (by decide +kernel)) (fun _ => rfl) (by decide) (by decide) (Nat.le_of_ble_eq_true rfl) (by simp [zw_b] <;> omega) (by simp [zw_b] <;> omega) ⟨Nat.le_of_ble_eq_true rfl, Nat.le_of_ble_eq_true rfl⟩ dX6_init_7 ?_
    refine zw_putR C (ci := 6) (f := 8) tyX6 (by decide +kernel) (by decide) rfl x_in6 tyX6_ok nmX6 (by decide) (by decide) rfl rfl (x_tb (i := 189) (by decide +kernel) rfl) rfl rfl (tyX6_ok 8 (by decide)) (fun _ => rfl) (fun _ => rfl) (by omega) (by omega) dX6_init_9 ?_
    refine zw_aload C 0 dX6_init_12 rfl ?_
    refine zw_bipush C (6 : Int32) dX6_init_13 (by decide) ?_
    refine zw_newa C (atype := .int) (ty := .int) (t0 := 2) (N' := 6) (a0 := (6, .inl (fun _ => 0))) rfl (x_tb (i := 163) (by decide +kernel) rfl) rfl (fun ad rq hc => zw_E0i (kk := 12) hc (by decide +kernel) (by decide +kernel) (by decide)) (fun _ => rfl) (by decide) (by decide) (Nat.le_of_ble_eq_true rfl) (by simp [zw_b] <;> omega) (by simp [zw_b] <;> omega) ⟨Nat.le_of_ble_eq_true rfl, Nat.le_of_ble_eq_true rfl⟩ dX6_init_15 ?_
    refine zw_putR C (ci := 6) (f := 9) tyX6 (by decide +kernel) (by decide) rfl x_in6 tyX6_ok nmX6 (by decide) (by decide) rfl rfl (x_tb (i := 190) (by decide +kernel) rfl) rfl rfl (tyX6_ok 9 (by decide)) (fun _ => rfl) (fun _ => rfl) (by omega) (by omega) dX6_init_17 ?_
    refine zw_aload C 0 dX6_init_20 rfl ?_
    refine zw_bipush C (6 : Int32) dX6_init_21 (by decide) ?_
    refine zw_newa C (atype := .int) (ty := .int) (t0 := 2) (N' := 6) (a0 := (6, .inl (fun _ => 0))) rfl (x_tb (i := 163) (by decide +kernel) rfl) rfl (fun ad rq hc => zw_E0i (kk := 12) hc (by decide +kernel) (by decide +kernel) (by decide)) (fun _ => rfl) (by decide) (by decide) (Nat.le_of_ble_eq_true rfl) (by simp [zw_b] <;> omega) (by simp [zw_b] <;> omega) ⟨Nat.le_of_ble_eq_true rfl, Nat.le_of_ble_eq_true rfl⟩ dX6_init_23 ?_
    refine zw_putR C (ci := 6) (f := 10) tyX6 (by decide +kernel) (by decide) rfl x_in6 tyX6_ok nmX6 (by decide) (by decide) rfl rfl (x_tb (i := 193) (by decide +kernel) rfl) rfl rfl (tyX6_ok 10 (by decide)) (fun _ => rfl) (fun _ => rfl) (by omega) (by omega) dX6_init_25 ?_
    refine zw_aload C 0 dX6_init_28 rfl ?_
    refine zw_bipush C (6 : Int32) dX6_init_29 (by decide) ?_
    refine zw_newa C (atype := .int) (ty := .int) (t0 := 2) (N' := 6) (a0 := (6, .inl (fun _ => 0))) rfl (x_tb (i := 163) (by decide +kernel) rfl) rfl (fun ad rq hc => zw_E0i (kk := 12) hc (by decide +kernel) (by decide +kernel) (by decide)) (fun _ => rfl) (by decide) (by decide) (Nat.le_of_ble_eq_true rfl) (by simp [zw_b] <;> omega) (by simp [zw_b] <;> omega) ⟨Nat.le_of_ble_eq_true rfl, Nat.le_of_ble_eq_true rfl⟩ dX6_init_31 ?_
    refine zw_putR C (ci := 6) (f := 11) tyX6 (by decide +kernel) (by decide) rfl x_in6 tyX6_ok nmX6 (by decide) (by decide) rfl rfl (x_tb (i := 195) (by decide +kernel) rfl) rfl rfl (tyX6_ok 11 (by decide)) (fun _ => rfl) (fun _ => rfl) (by omega) (by omega) dX6_init_33 ?_
    refine zw_aload C 0 dX6_init_36 rfl ?_
    refine zw_bipush C (6 : Int32) dX6_init_37 (by decide) ?_
    refine zw_newa C (atype := .int) (ty := .int) (t0 := 2) (N' := 6) (a0 := (6, .inl (fun _ => 0))) rfl (x_tb (i := 163) (by decide +kernel) rfl) rfl (fun ad rq hc => zw_E0i (kk := 12) hc (by decide +kernel) (by decide +kernel) (by decide)) (fun _ => rfl) (by decide) (by decide) (Nat.le_of_ble_eq_true rfl) (by simp [zw_b] <;> omega) (by simp [zw_b] <;> omega) ⟨Nat.le_of_ble_eq_true rfl, Nat.le_of_ble_eq_true rfl⟩ dX6_init_39 ?_
    refine zw_putR C (ci := 6) (f := 12) tyX6 (by decide +kernel) (by decide) rfl x_in6 tyX6_ok nmX6 (by decide) (by decide) rfl rfl (x_tb (i := 197) (by decide +kernel) rfl) rfl rfl (tyX6_ok 12 (by decide)) (fun _ => rfl) (fun _ => rfl) (by omega) (by omega) dX6_init_41 ?_
    refine zw_aload C 0 dX6_init_44 rfl ?_
    refine zw_bipush C (6 : Int32) dX6_init_45 (by decide) ?_
    refine zw_newa C (atype := .int) (ty := .int) (t0 := 2) (N' := 6) (a0 := (6, .inl (fun _ => 0))) rfl (x_tb (i := 163) (by decide +kernel) rfl) rfl (fun ad rq hc => zw_E0i (kk := 12) hc (by decide +kernel) (by decide +kernel) (by decide)) (fun _ => rfl) (by decide) (by decide) (Nat.le_of_ble_eq_true rfl) (by simp [zw_b] <;> omega) (by simp [zw_b] <;> omega) ⟨Nat.le_of_ble_eq_true rfl, Nat.le_of_ble_eq_true rfl⟩ dX6_init_47 ?_
    refine zw_putR C (ci := 6) (f := 13) tyX6 (by decide +kernel) (by decide) rfl x_in6 tyX6_ok nmX6 (by decide) (by decide) rfl rfl (x_tb (i := 199) (by decide +kernel) rfl) rfl rfl (tyX6_ok 13 (by decide)) (fun _ => rfl) (fun _ => rfl) (by omega) (by omega) dX6_init_49 ?_
    refine zw_aload C 0 dX6_init_52 rfl ?_
    refine zw_new C (ci := 1) tyX1 (by decide +kernel) (by decide) rfl x_in1 tyX1_ok (x_tb (i := 131) (by decide +kernel) rfl) (x_tb (i := 132) (by decide +kernel) rfl) (x_tb (i := 104) (by decide +kernel) rfl) zf_1 (by simp [zw_b] <;> omega) (by simp [zw_b] <;> omega) ⟨Nat.le_of_ble_eq_true rfl, Nat.le_of_ble_eq_true rfl⟩ dX6_init_53 ?_
    refine zw_dup C dX6_init_56 ?_
    refine zw_callI C (na := 0) (As := []) (zc_X1_8 (l := l) (D := D) (iC := iC) hZ) (host := "BabyRound") (i := 133) (by decide +kernel) rfl (x_tb (i := 134) (by decide +kernel) rfl) (x_tb (i := 104) (by decide +kernel) rfl) (x_tb (i := 135) (by decide +kernel) rfl) (by decide +kernel) rfl ⟨Nat.le_of_ble_eq_true rfl, Nat.le_of_ble_eq_true rfl⟩ ⟨rfl, rfl⟩ ⟨Nat.le_of_ble_eq_true rfl, Nat.le_of_ble_eq_true rfl⟩ rfl (fun _ => Nat.le_of_ble_eq_true rfl) (by simp [zw_b] <;> omega) (by simp [zw_b] <;> omega) dX6_init_57 ?_
    refine zw_putR C (ci := 6) (f := 14) tyX6 (by decide +kernel) (by decide) rfl x_in6 tyX6_ok nmX6 (by decide) (by decide) rfl rfl (x_tb (i := 201) (by decide +kernel) rfl) rfl rfl (tyX6_ok 14 (by decide)) (fun _ => rfl) (fun _ => rfl) (by omega) (by omega) dX6_init_60 ?_
    exact zw_vret C dX6_init_63
def zr_X1_28 (rq : zw_R) : zw_R := (zw_u (zw_u (zw_u (zw_u (zw_u rq 28 0 29) 28 2 30) 28 4 31) 28 5 32) 28 6 33)
def zs_X1_28 (σ : x_Hp) : x_Hp := σ
abbrev rm_zX1_28 : Room := { frames := 1, cells := 5, slots := 894, locals := 12 }
set_option maxHeartbeats 4000000 in
set_option maxRecDepth 100000 in
theorem zc_X1_28 (hZ : zw_OK b0 Z) : zw_M l D iC TX b0 Z yX1_init cX1_init 1 rm_zX1_28 5 894 [.inl (some (28))] 29 rq σ 34 (zr_X1_28 rq) (zs_X1_28 σ) := by
  refine zw_M.of hZ (lv := [(0, .inl (some (28)))]) (by decide) rfl (fun _ => Nat.le_of_ble_eq_true rfl) (fun _ => rfl) (fun hc0 => ?_) (fun ad0 p e s m args below meth c C => ?_)
  · have hc1 := zw_clN hc0
    have hc2 := zw_clU (o := 28) (k := 0) (j := 29) hc1 (by omega) (by omega)
    have hc3 := zw_clN hc2
    have hc4 := zw_clU (o := 28) (k := 2) (j := 30) hc3 (by omega) (by omega)
    have hc5 := zw_clN hc4
    have hc6 := zw_clU (o := 28) (k := 4) (j := 31) hc5 (by omega) (by omega)
    have hc7 := zw_clN hc6
    have hc8 := zw_clU (o := 28) (k := 5) (j := 32) hc7 (by omega) (by omega)
    have hc9 := zw_clN hc8
    have hc10 := zw_clU (o := 28) (k := 6) (j := 33) hc9 (by omega) (by omega)
    exact ⟨by omega, hc10⟩
  · refine zw_aload C 0 dX1_init_0 rfl ?_
    refine zw_obj C (x_tb (i := 136) (by decide +kernel) rfl) (x_tb (i := 123) (by decide +kernel) rfl) (x_tb (i := 124) (by decide +kernel) rfl) ⟨Nat.le_of_ble_eq_true rfl, Nat.le_of_ble_eq_true rfl⟩ dX1_init_1 ?_
    refine zw_aload C 0 dX1_init_4 rfl ?_
    refine zw_sipush C (420 : Int32) dX1_init_5 (by decide) ?_
    refine zw_newa C (atype := .int) (ty := .int) (t0 := 2) (N' := 420) (a0 := (420, .inl (fun _ => 0))) rfl (x_tb (i := 163) (by decide +kernel) rfl) rfl (fun ad rq hc => zw_E0i (kk := 12) hc (by decide +kernel) (by decide +kernel) (by decide)) (fun _ => rfl) (by decide) (by decide) (Nat.le_of_ble_eq_true rfl) (by simp [zw_b] <;> omega) (by simp [zw_b] <;> omega) ⟨Nat.le_of_ble_eq_true rfl, Nat.le_of_ble_eq_true rfl⟩ dX1_init_8 ?_
    refine zw_putR C (ci := 1) (f := 0) tyX1 (by decide +kernel) (by decide) rfl x_in1 tyX1_ok nmX1 (by decide) (by decide) rfl rfl (x_tb (i := 137) (by decide +kernel) rfl) rfl rfl (tyX1_ok 0 (by decide)) (fun _ => rfl) (fun _ => rfl) (by omega) (by omega) dX1_init_10 ?_
    refine zw_aload C 0 dX1_init_13 rfl ?_
    refine zw_sipush C (420 : Int32) dX1_init_14 (by decide) ?_
    refine zw_newa C (atype := .int) (ty := .int) (t0 := 2) (N' := 420) (a0 := (420, .inl (fun _ => 0))) rfl (x_tb (i := 163) (by decide +kernel) rfl) rfl (fun ad rq hc => zw_E0i (kk := 12) hc (by decide +kernel) (by decide +kernel) (by decide)) (fun _ => rfl) (by decide) (by decide) (Nat.le_of_ble_eq_true rfl) (by simp [zw_b] <;> omega) (by simp [zw_b] <;> omega) ⟨Nat.le_of_ble_eq_true rfl, Nat.le_of_ble_eq_true rfl⟩ dX1_init_17 ?_
    refine zw_putR C (ci := 1) (f := 2) tyX1 (by decide +kernel) (by decide) rfl x_in1 tyX1_ok nmX1 (by decide) (by decide) rfl rfl (x_tb (i := 139) (by decide +kernel) rfl) rfl rfl (tyX1_ok 2 (by decide)) (fun _ => rfl) (fun _ => rfl) (by omega) (by omega) dX1_init_19 ?_
    refine zw_aload C 0 dX1_init_22 rfl ?_
    refine zw_bipush C (7 : Int32) dX1_init_23 (by decide) ?_
    refine zw_newa C (atype := .int) (ty := .int) (t0 := 2) (N' := 7) (a0 := (7, .inl (fun _ => 0))) rfl (x_tb (i := 163) (by decide +kernel) rfl) rfl (fun ad rq hc => zw_E0i (kk := 12) hc (by decide +kernel) (by decide +kernel) (by decide)) (fun _ => rfl) (by decide) (by decide) (Nat.le_of_ble_eq_true rfl) (by simp [zw_b] <;> omega) (by simp [zw_b] <;> omega) ⟨Nat.le_of_ble_eq_true rfl, Nat.le_of_ble_eq_true rfl⟩ dX1_init_25 ?_
    refine zw_putR C (ci := 1) (f := 4) tyX1 (by decide +kernel) (by decide) rfl x_in1 tyX1_ok nmX1 (by decide) (by decide) rfl rfl (x_tb (i := 141) (by decide +kernel) rfl) rfl rfl (tyX1_ok 4 (by decide)) (fun _ => rfl) (fun _ => rfl) (by omega) (by omega) dX1_init_27 ?_
    refine zw_aload C 0 dX1_init_30 rfl ?_
    refine zw_bipush C (7 : Int32) dX1_init_31 (by decide) ?_
    refine zw_newa C (atype := .int) (ty := .int) (t0 := 2) (N' := 7) (a0 := (7, .inl (fun _ => 0))) rfl (x_tb (i := 163) (by decide +kernel) rfl) rfl (fun ad rq hc => zw_E0i (kk := 12) hc (by decide +kernel) (by decide +kernel) (by decide)) (fun _ => rfl) (by decide) (by decide) (Nat.le_of_ble_eq_true rfl) (by simp [zw_b] <;> omega) (by simp [zw_b] <;> omega) ⟨Nat.le_of_ble_eq_true rfl, Nat.le_of_ble_eq_true rfl⟩ dX1_init_33 ?_
    refine zw_putR C (ci := 1) (f := 5) tyX1 (by decide +kernel) (by decide) rfl x_in1 tyX1_ok nmX1 (by decide) (by decide) rfl rfl (x_tb (i := 142) (by decide +kernel) rfl) rfl rfl (tyX1_ok 5 (by decide)) (fun _ => rfl) (fun _ => rfl) (by omega) (by omega) dX1_init_35 ?_
    refine zw_aload C 0 dX1_init_38 rfl ?_
    refine zw_bipush C (40 : Int32) dX1_init_39 (by decide) ?_
    refine zw_newa C (atype := .int) (ty := .int) (t0 := 2) (N' := 40) (a0 := (40, .inl (fun _ => 0))) rfl (x_tb (i := 163) (by decide +kernel) rfl) rfl (fun ad rq hc => zw_E0i (kk := 12) hc (by decide +kernel) (by decide +kernel) (by decide)) (fun _ => rfl) (by decide) (by decide) (Nat.le_of_ble_eq_true rfl) (by simp [zw_b] <;> omega) (by simp [zw_b] <;> omega) ⟨Nat.le_of_ble_eq_true rfl, Nat.le_of_ble_eq_true rfl⟩ dX1_init_41 ?_
    refine zw_putR C (ci := 1) (f := 6) tyX1 (by decide +kernel) (by decide) rfl x_in1 tyX1_ok nmX1 (by decide) (by decide) rfl rfl (x_tb (i := 143) (by decide +kernel) rfl) rfl rfl (tyX1_ok 6 (by decide)) (fun _ => rfl) (fun _ => rfl) (by omega) (by omega) dX1_init_43 ?_
    exact zw_vret C dX1_init_46
def zr_X6_21 (rq : zw_R) : zw_R := (zw_u (zr_X1_28 (zw_u (zw_u (zw_u (zw_u (zw_u (zw_u rq 21 8 22) 21 9 23) 21 10 24) 21 11 25) 21 12 26) 21 13 27)) 21 14 28)
def zs_X6_21 (σ : x_Hp) : x_Hp := (zs_X1_28 σ)
abbrev rm_zX6_21 : Room := { frames := 2, cells := 12, slots := 938, locals := 32 }
set_option maxHeartbeats 4000000 in
set_option maxRecDepth 100000 in
theorem zc_X6_21 (hZ : zw_OK b0 Z) : zw_M l D iC TX b0 Z yX6_init cX6_init 1 rm_zX6_21 12 938 [.inl (some (21))] 22 rq σ 34 (zr_X6_21 rq) (zs_X6_21 σ) := by
  refine zw_M.of hZ (lv := [(0, .inl (some (21)))]) (by decide) rfl (fun _ => Nat.le_of_ble_eq_true rfl) (fun _ => rfl) (fun hc0 => ?_) (fun ad0 p e s m args below meth c C => ?_)
  · have hc1 := zw_clN hc0
    have hc2 := zw_clU (o := 21) (k := 8) (j := 22) hc1 (by omega) (by omega)
    have hc3 := zw_clN hc2
    have hc4 := zw_clU (o := 21) (k := 9) (j := 23) hc3 (by omega) (by omega)
    have hc5 := zw_clN hc4
    have hc6 := zw_clU (o := 21) (k := 10) (j := 24) hc5 (by omega) (by omega)
    have hc7 := zw_clN hc6
    have hc8 := zw_clU (o := 21) (k := 11) (j := 25) hc7 (by omega) (by omega)
    have hc9 := zw_clN hc8
    have hc10 := zw_clU (o := 21) (k := 12) (j := 26) hc9 (by omega) (by omega)
    have hc11 := zw_clN hc10
    have hc12 := zw_clU (o := 21) (k := 13) (j := 27) hc11 (by omega) (by omega)
    have hc13 := zw_clN hc12
    have hc14 := (((zc_X1_28 (l := l) (D := D) (iC := iC) hZ) hc13).1).2
    have hc15 := zw_clU (o := 21) (k := 14) (j := 28) hc14 (by omega) (by omega)
    exact ⟨by omega, hc15⟩
  · refine zw_aload C 0 dX6_init_0 rfl ?_
    refine zw_obj C (x_tb (i := 130) (by decide +kernel) rfl) (x_tb (i := 123) (by decide +kernel) rfl) (x_tb (i := 124) (by decide +kernel) rfl) ⟨Nat.le_of_ble_eq_true rfl, Nat.le_of_ble_eq_true rfl⟩ dX6_init_1 ?_
    refine zw_aload C 0 dX6_init_4 rfl ?_
    refine zw_bipush C (6 : Int32) dX6_init_5 (by decide) ?_
    refine zw_newa C (atype := .long) (ty := .long) (t0 := 3) (N' := 6) (a0 := (6, .inr (.inl (fun _ => 0)))) rfl (x_tb (i := 162) (by decide +kernel) rfl) rfl (fun ad rq hc => zw_E0l hc (by decide +kernel) (by decide +kernel)) (fun _ => rfl) (by decide) (by decide) (Nat.le_of_ble_eq_true rfl) (by simp [zw_b] <;> omega) (by simp [zw_b] <;> omega) ⟨Nat.le_of_ble_eq_true rfl, Nat.le_of_ble_eq_true rfl⟩ dX6_init_7 ?_
    refine zw_putR C (ci := 6) (f := 8) tyX6 (by decide +kernel) (by decide) rfl x_in6 tyX6_ok nmX6 (by decide) (by decide) rfl rfl (x_tb (i := 189) (by decide +kernel) rfl) rfl rfl (tyX6_ok 8 (by decide)) (fun _ => rfl) (fun _ => rfl) (by omega) (by omega) dX6_init_9 ?_
    refine zw_aload C 0 dX6_init_12 rfl ?_
    refine zw_bipush C (6 : Int32) dX6_init_13 (by decide) ?_
    refine zw_newa C (atype := .int) (ty := .int) (t0 := 2) (N' := 6) (a0 := (6, .inl (fun _ => 0))) rfl (x_tb (i := 163) (by decide +kernel) rfl) rfl (fun ad rq hc => zw_E0i (kk := 12) hc (by decide +kernel) (by decide +kernel) (by decide)) (fun _ => rfl) (by decide) (by decide) (Nat.le_of_ble_eq_true rfl) (by simp [zw_b] <;> omega) (by simp [zw_b] <;> omega) ⟨Nat.le_of_ble_eq_true rfl, Nat.le_of_ble_eq_true rfl⟩ dX6_init_15 ?_
    refine zw_putR C (ci := 6) (f := 9) tyX6 (by decide +kernel) (by decide) rfl x_in6 tyX6_ok nmX6 (by decide) (by decide) rfl rfl (x_tb (i := 190) (by decide +kernel) rfl) rfl rfl (tyX6_ok 9 (by decide)) (fun _ => rfl) (fun _ => rfl) (by omega) (by omega) dX6_init_17 ?_
    refine zw_aload C 0 dX6_init_20 rfl ?_
    refine zw_bipush C (6 : Int32) dX6_init_21 (by decide) ?_
    refine zw_newa C (atype := .int) (ty := .int) (t0 := 2) (N' := 6) (a0 := (6, .inl (fun _ => 0))) rfl (x_tb (i := 163) (by decide +kernel) rfl) rfl (fun ad rq hc => zw_E0i (kk := 12) hc (by decide +kernel) (by decide +kernel) (by decide)) (fun _ => rfl) (by decide) (by decide) (Nat.le_of_ble_eq_true rfl) (by simp [zw_b] <;> omega) (by simp [zw_b] <;> omega) ⟨Nat.le_of_ble_eq_true rfl, Nat.le_of_ble_eq_true rfl⟩ dX6_init_23 ?_
    refine zw_putR C (ci := 6) (f := 10) tyX6 (by decide +kernel) (by decide) rfl x_in6 tyX6_ok nmX6 (by decide) (by decide) rfl rfl (x_tb (i := 193) (by decide +kernel) rfl) rfl rfl (tyX6_ok 10 (by decide)) (fun _ => rfl) (fun _ => rfl) (by omega) (by omega) dX6_init_25 ?_
    refine zw_aload C 0 dX6_init_28 rfl ?_
    refine zw_bipush C (6 : Int32) dX6_init_29 (by decide) ?_
    refine zw_newa C (atype := .int) (ty := .int) (t0 := 2) (N' := 6) (a0 := (6, .inl (fun _ => 0))) rfl (x_tb (i := 163) (by decide +kernel) rfl) rfl (fun ad rq hc => zw_E0i (kk := 12) hc (by decide +kernel) (by decide +kernel) (by decide)) (fun _ => rfl) (by decide) (by decide) (Nat.le_of_ble_eq_true rfl) (by simp [zw_b] <;> omega) (by simp [zw_b] <;> omega) ⟨Nat.le_of_ble_eq_true rfl, Nat.le_of_ble_eq_true rfl⟩ dX6_init_31 ?_
    refine zw_putR C (ci := 6) (f := 11) tyX6 (by decide +kernel) (by decide) rfl x_in6 tyX6_ok nmX6 (by decide) (by decide) rfl rfl (x_tb (i := 195) (by decide +kernel) rfl) rfl rfl (tyX6_ok 11 (by decide)) (fun _ => rfl) (fun _ => rfl) (by omega) (by omega) dX6_init_33 ?_
    refine zw_aload C 0 dX6_init_36 rfl ?_
    refine zw_bipush C (6 : Int32) dX6_init_37 (by decide) ?_
    refine zw_newa C (atype := .int) (ty := .int) (t0 := 2) (N' := 6) (a0 := (6, .inl (fun _ => 0))) rfl (x_tb (i := 163) (by decide +kernel) rfl) rfl (fun ad rq hc => zw_E0i (kk := 12) hc (by decide +kernel) (by decide +kernel) (by decide)) (fun _ => rfl) (by decide) (by decide) (Nat.le_of_ble_eq_true rfl) (by simp [zw_b] <;> omega) (by simp [zw_b] <;> omega) ⟨Nat.le_of_ble_eq_true rfl, Nat.le_of_ble_eq_true rfl⟩ dX6_init_39 ?_
    refine zw_putR C (ci := 6) (f := 12) tyX6 (by decide +kernel) (by decide) rfl x_in6 tyX6_ok nmX6 (by decide) (by decide) rfl rfl (x_tb (i := 197) (by decide +kernel) rfl) rfl rfl (tyX6_ok 12 (by decide)) (fun _ => rfl) (fun _ => rfl) (by omega) (by omega) dX6_init_41 ?_
    refine zw_aload C 0 dX6_init_44 rfl ?_
    refine zw_bipush C (6 : Int32) dX6_init_45 (by decide) ?_
    refine zw_newa C (atype := .int) (ty := .int) (t0 := 2) (N' := 6) (a0 := (6, .inl (fun _ => 0))) rfl (x_tb (i := 163) (by decide +kernel) rfl) rfl (fun ad rq hc => zw_E0i (kk := 12) hc (by decide +kernel) (by decide +kernel) (by decide)) (fun _ => rfl) (by decide) (by decide) (Nat.le_of_ble_eq_true rfl) (by simp [zw_b] <;> omega) (by simp [zw_b] <;> omega) ⟨Nat.le_of_ble_eq_true rfl, Nat.le_of_ble_eq_true rfl⟩ dX6_init_47 ?_
    refine zw_putR C (ci := 6) (f := 13) tyX6 (by decide +kernel) (by decide) rfl x_in6 tyX6_ok nmX6 (by decide) (by decide) rfl rfl (x_tb (i := 199) (by decide +kernel) rfl) rfl rfl (tyX6_ok 13 (by decide)) (fun _ => rfl) (fun _ => rfl) (by omega) (by omega) dX6_init_49 ?_
    refine zw_aload C 0 dX6_init_52 rfl ?_
    refine zw_new C (ci := 1) tyX1 (by decide +kernel) (by decide) rfl x_in1 tyX1_ok (x_tb (i := 131) (by decide +kernel) rfl) (x_tb (i := 132) (by decide +kernel) rfl) (x_tb (i := 104) (by decide +kernel) rfl) zf_1 (by simp [zw_b] <;> omega) (by simp [zw_b] <;> omega) ⟨Nat.le_of_ble_eq_true rfl, Nat.le_of_ble_eq_true rfl⟩ dX6_init_53 ?_
    refine zw_dup C dX6_init_56 ?_
    refine zw_callI C (na := 0) (As := []) (zc_X1_28 (l := l) (D := D) (iC := iC) hZ) (host := "BabyRound") (i := 133) (by decide +kernel) rfl (x_tb (i := 134) (by decide +kernel) rfl) (x_tb (i := 104) (by decide +kernel) rfl) (x_tb (i := 135) (by decide +kernel) rfl) (by decide +kernel) rfl ⟨Nat.le_of_ble_eq_true rfl, Nat.le_of_ble_eq_true rfl⟩ ⟨rfl, rfl⟩ ⟨Nat.le_of_ble_eq_true rfl, Nat.le_of_ble_eq_true rfl⟩ rfl (fun _ => Nat.le_of_ble_eq_true rfl) (by simp [zw_b] <;> omega) (by simp [zw_b] <;> omega) dX6_init_57 ?_
    refine zw_putR C (ci := 6) (f := 14) tyX6 (by decide +kernel) (by decide) rfl x_in6 tyX6_ok nmX6 (by decide) (by decide) rfl rfl (x_tb (i := 201) (by decide +kernel) rfl) rfl rfl (tyX6_ok 14 (by decide)) (fun _ => rfl) (fun _ => rfl) (by omega) (by omega) dX6_init_60 ?_
    exact zw_vret C dX6_init_63
def zr_X4_14 (rq : zw_R) : zw_R := (zw_u (zr_X6_21 (zw_u (zw_u (zw_u (zw_u (zw_u (zw_u rq 14 0 15) 14 2 16) 14 3 17) 14 4 18) 14 7 19) 14 8 20)) 14 12 21)
def zs_X4_14 (σ : x_Hp) : x_Hp := (zs_X6_21 (x_pI σ 14 11 (-1)))
abbrev rm_zX4_14 : Room := { frames := 3, cells := 19, slots := 4203, locals := 52 }
set_option maxHeartbeats 4000000 in
set_option maxRecDepth 100000 in
theorem zc_X4_14 (hZ : zw_OK b0 Z) : zw_M l D iC TX b0 Z yX4_init cX4_init 1 rm_zX4_14 19 4203 [.inl (some (14))] 15 rq σ 34 (zr_X4_14 rq) (zs_X4_14 σ) := by
  refine zw_M.of hZ (lv := [(0, .inl (some (14)))]) (by decide) rfl (fun _ => Nat.le_of_ble_eq_true rfl) (fun _ => rfl) (fun hc0 => ?_) (fun ad0 p e s m args below meth c C => ?_)
  · have hc1 := zw_clN hc0
    have hc2 := zw_clU (o := 14) (k := 0) (j := 15) hc1 (by omega) (by omega)
    have hc3 := zw_clN hc2
    have hc4 := zw_clU (o := 14) (k := 2) (j := 16) hc3 (by omega) (by omega)
    have hc5 := zw_clN hc4
    have hc6 := zw_clU (o := 14) (k := 3) (j := 17) hc5 (by omega) (by omega)
    have hc7 := zw_clN hc6
    have hc8 := zw_clU (o := 14) (k := 4) (j := 18) hc7 (by omega) (by omega)
    have hc9 := zw_clN hc8
    have hc10 := zw_clU (o := 14) (k := 7) (j := 19) hc9 (by omega) (by omega)
    have hc11 := zw_clN hc10
    have hc12 := zw_clU (o := 14) (k := 8) (j := 20) hc11 (by omega) (by omega)
    have hc13 := zw_clI (o := 14) (k := 11) (x := (-1)) hc12 (by omega)
    have hc14 := zw_clN hc13
    have hc15 := (((zc_X6_21 (l := l) (D := D) (iC := iC) hZ) hc14).1).2
    have hc16 := zw_clU (o := 14) (k := 12) (j := 21) hc15 (by omega) (by omega)
    exact ⟨by omega, hc16⟩
  · refine zw_aload C 0 dX4_init_0 rfl ?_
    refine zw_obj C (x_tb (i := 241) (by decide +kernel) rfl) (x_tb (i := 123) (by decide +kernel) rfl) (x_tb (i := 124) (by decide +kernel) rfl) ⟨Nat.le_of_ble_eq_true rfl, Nat.le_of_ble_eq_true rfl⟩ dX4_init_1 ?_
    refine zw_aload C 0 dX4_init_4 rfl ?_
    refine zw_sipush C (2000 : Int32) dX4_init_5 (by decide) ?_
    refine zw_newa C (atype := .char) (ty := .char) (t0 := 1) (N' := 2000) (a0 := (2000, .inl (fun _ => 0))) rfl (x_tb (i := 287) (by decide +kernel) rfl) rfl (fun ad rq hc => zw_E0i (kk := 11) hc (by decide +kernel) (by decide +kernel) (by decide)) (fun _ => rfl) (by decide) (by decide) (Nat.le_of_ble_eq_true rfl) (by simp [zw_b] <;> omega) (by simp [zw_b] <;> omega) ⟨Nat.le_of_ble_eq_true rfl, Nat.le_of_ble_eq_true rfl⟩ dX4_init_8 ?_
    refine zw_putR C (ci := 4) (f := 0) tyX4 (by decide +kernel) (by decide) rfl x_in4 tyX4_ok nmX4 (by decide) (by decide) rfl rfl (x_tb (i := 244) (by decide +kernel) rfl) rfl rfl (tyX4_ok 0 (by decide)) (fun _ => rfl) (fun _ => rfl) (by omega) (by omega) dX4_init_10 ?_
    refine zw_aload C 0 dX4_init_13 rfl ?_
    refine zw_sipush C (402 : Int32) dX4_init_14 (by decide) ?_
    refine zw_newa C (atype := .int) (ty := .int) (t0 := 2) (N' := 402) (a0 := (402, .inl (fun _ => 0))) rfl (x_tb (i := 163) (by decide +kernel) rfl) rfl (fun ad rq hc => zw_E0i (kk := 12) hc (by decide +kernel) (by decide +kernel) (by decide)) (fun _ => rfl) (by decide) (by decide) (Nat.le_of_ble_eq_true rfl) (by simp [zw_b] <;> omega) (by simp [zw_b] <;> omega) ⟨Nat.le_of_ble_eq_true rfl, Nat.le_of_ble_eq_true rfl⟩ dX4_init_17 ?_
    refine zw_putR C (ci := 4) (f := 2) tyX4 (by decide +kernel) (by decide) rfl x_in4 tyX4_ok nmX4 (by decide) (by decide) rfl rfl (x_tb (i := 247) (by decide +kernel) rfl) rfl rfl (tyX4_ok 2 (by decide)) (fun _ => rfl) (fun _ => rfl) (by omega) (by omega) dX4_init_19 ?_
    refine zw_aload C 0 dX4_init_22 rfl ?_
    refine zw_sipush C (402 : Int32) dX4_init_23 (by decide) ?_
    refine zw_newa C (atype := .long) (ty := .long) (t0 := 3) (N' := 402) (a0 := (402, .inr (.inl (fun _ => 0)))) rfl (x_tb (i := 162) (by decide +kernel) rfl) rfl (fun ad rq hc => zw_E0l hc (by decide +kernel) (by decide +kernel)) (fun _ => rfl) (by decide) (by decide) (Nat.le_of_ble_eq_true rfl) (by simp [zw_b] <;> omega) (by simp [zw_b] <;> omega) ⟨Nat.le_of_ble_eq_true rfl, Nat.le_of_ble_eq_true rfl⟩ dX4_init_26 ?_
    refine zw_putR C (ci := 4) (f := 3) tyX4 (by decide +kernel) (by decide) rfl x_in4 tyX4_ok nmX4 (by decide) (by decide) rfl rfl (x_tb (i := 248) (by decide +kernel) rfl) rfl rfl (tyX4_ok 3 (by decide)) (fun _ => rfl) (fun _ => rfl) (by omega) (by omega) dX4_init_28 ?_
    refine zw_aload C 0 dX4_init_31 rfl ?_
    refine zw_sipush C (402 : Int32) dX4_init_32 (by decide) ?_
    refine zw_newa C (atype := .int) (ty := .int) (t0 := 2) (N' := 402) (a0 := (402, .inl (fun _ => 0))) rfl (x_tb (i := 163) (by decide +kernel) rfl) rfl (fun ad rq hc => zw_E0i (kk := 12) hc (by decide +kernel) (by decide +kernel) (by decide)) (fun _ => rfl) (by decide) (by decide) (Nat.le_of_ble_eq_true rfl) (by simp [zw_b] <;> omega) (by simp [zw_b] <;> omega) ⟨Nat.le_of_ble_eq_true rfl, Nat.le_of_ble_eq_true rfl⟩ dX4_init_35 ?_
    refine zw_putR C (ci := 4) (f := 4) tyX4 (by decide +kernel) (by decide) rfl x_in4 tyX4_ok nmX4 (by decide) (by decide) rfl rfl (x_tb (i := 249) (by decide +kernel) rfl) rfl rfl (tyX4_ok 4 (by decide)) (fun _ => rfl) (fun _ => rfl) (by omega) (by omega) dX4_init_37 ?_
    refine zw_aload C 0 dX4_init_40 rfl ?_
    refine zw_iconst C (4 : Int32) dX4_init_41 (by decide) ?_
    refine zw_newa C (atype := .int) (ty := .int) (t0 := 2) (N' := 4) (a0 := (4, .inl (fun _ => 0))) rfl (x_tb (i := 163) (by decide +kernel) rfl) rfl (fun ad rq hc => zw_E0i (kk := 12) hc (by decide +kernel) (by decide +kernel) (by decide)) (fun _ => rfl) (by decide) (by decide) (Nat.le_of_ble_eq_true rfl) (by simp [zw_b] <;> omega) (by simp [zw_b] <;> omega) ⟨Nat.le_of_ble_eq_true rfl, Nat.le_of_ble_eq_true rfl⟩ dX4_init_42 ?_
    refine zw_putR C (ci := 4) (f := 7) tyX4 (by decide +kernel) (by decide) rfl x_in4 tyX4_ok nmX4 (by decide) (by decide) rfl rfl (x_tb (i := 252) (by decide +kernel) rfl) rfl rfl (tyX4_ok 7 (by decide)) (fun _ => rfl) (fun _ => rfl) (by omega) (by omega) dX4_init_44 ?_
    refine zw_aload C 0 dX4_init_47 rfl ?_
    refine zw_bipush C (40 : Int32) dX4_init_48 (by decide) ?_
    refine zw_newa C (atype := .int) (ty := .int) (t0 := 2) (N' := 40) (a0 := (40, .inl (fun _ => 0))) rfl (x_tb (i := 163) (by decide +kernel) rfl) rfl (fun ad rq hc => zw_E0i (kk := 12) hc (by decide +kernel) (by decide +kernel) (by decide)) (fun _ => rfl) (by decide) (by decide) (Nat.le_of_ble_eq_true rfl) (by simp [zw_b] <;> omega) (by simp [zw_b] <;> omega) ⟨Nat.le_of_ble_eq_true rfl, Nat.le_of_ble_eq_true rfl⟩ dX4_init_50 ?_
    refine zw_putR C (ci := 4) (f := 8) tyX4 (by decide +kernel) (by decide) rfl x_in4 tyX4_ok nmX4 (by decide) (by decide) rfl rfl (x_tb (i := 253) (by decide +kernel) rfl) rfl rfl (tyX4_ok 8 (by decide)) (fun _ => rfl) (fun _ => rfl) (by omega) (by omega) dX4_init_52 ?_
    refine zw_aload C 0 dX4_init_55 rfl ?_
    refine zw_iconst C (-1 : Int32) dX4_init_56 (by decide) ?_
    refine zw_putI C (ci := 4) (f := 11) tyX4 (by decide +kernel) (by decide) rfl x_in4 tyX4_ok nmX4 (by decide) (by decide) rfl rfl (x_tb (i := 256) (by decide +kernel) rfl) rfl (tyX4_ok 11 (by decide)) rfl rfl (by omega) dX4_init_57 ?_
    refine zw_aload C 0 dX4_init_60 rfl ?_
    refine zw_new C (ci := 6) tyX6 (by decide +kernel) (by decide) rfl x_in6 tyX6_ok (x_tb (i := 242) (by decide +kernel) rfl) (x_tb (i := 126) (by decide +kernel) rfl) (x_tb (i := 103) (by decide +kernel) rfl) zf_6 (by simp [zw_b] <;> omega) (by simp [zw_b] <;> omega) ⟨Nat.le_of_ble_eq_true rfl, Nat.le_of_ble_eq_true rfl⟩ dX4_init_61 ?_
    refine zw_dup C dX4_init_64 ?_
    refine zw_callI C (na := 0) (As := []) (zc_X6_21 (l := l) (D := D) (iC := iC) hZ) (host := "BabyRound") (i := 243) (by decide +kernel) rfl (x_tb (i := 128) (by decide +kernel) rfl) (x_tb (i := 103) (by decide +kernel) rfl) (x_tb (i := 129) (by decide +kernel) rfl) (by decide +kernel) rfl ⟨Nat.le_of_ble_eq_true rfl, Nat.le_of_ble_eq_true rfl⟩ ⟨rfl, rfl⟩ ⟨Nat.le_of_ble_eq_true rfl, Nat.le_of_ble_eq_true rfl⟩ rfl (fun _ => Nat.le_of_ble_eq_true rfl) (by simp [zw_b] <;> omega) (by simp [zw_b] <;> omega) dX4_init_65 ?_
    refine zw_putR C (ci := 4) (f := 12) tyX4 (by decide +kernel) (by decide) rfl x_in4 tyX4_ok nmX4 (by decide) (by decide) rfl rfl (x_tb (i := 258) (by decide +kernel) rfl) rfl rfl (tyX4_ok 12 (by decide)) (fun _ => rfl) (fun _ => rfl) (by omega) (by omega) dX4_init_68 ?_
    exact zw_vret C dX4_init_71
def zr_X0_34 (rq : zw_R) : zw_R := (zw_u rq 34 0 1)
def zs_X0_34 (σ : x_Hp) : x_Hp := σ
abbrev rm_zX0_34 : Room := { frames := 1, cells := 0, slots := 0, locals := 12 }
set_option maxHeartbeats 4000000 in
set_option maxRecDepth 100000 in
theorem zc_X0_34 (hZ : zw_OK b0 Z) : zw_M l D iC TX b0 Z yX0_init cX0_init 2 rm_zX0_34 0 0 [.inl (some (34)), .inl (some (1))] 35 rq σ 35 (zr_X0_34 rq) (zs_X0_34 σ) := by
  refine zw_M.of hZ (lv := [(0, .inl (some (34))), (1, .inl (some (1)))]) (by decide) rfl (fun _ => Nat.le_of_ble_eq_true rfl) (fun _ => rfl) (fun hc0 => ?_) (fun ad0 p e s m args below meth c C => ?_)
  · have hc1 := zw_clU (o := 34) (k := 0) (j := 1) hc0 (by omega) (by omega)
    exact ⟨by omega, hc1⟩
  · refine zw_aload C 0 dX0_init_0 rfl ?_
    refine zw_obj C (x_tb (i := 293) (by decide +kernel) rfl) (x_tb (i := 123) (by decide +kernel) rfl) (x_tb (i := 124) (by decide +kernel) rfl) ⟨Nat.le_of_ble_eq_true rfl, Nat.le_of_ble_eq_true rfl⟩ dX0_init_1 ?_
    refine zw_aload C 0 dX0_init_4 rfl ?_
    refine zw_aload C 1 dX0_init_5 rfl ?_
    refine zw_putR C (ci := 0) (f := 0) tyX0 (by decide +kernel) (by decide) rfl x_in0 tyX0_ok nmX0 (by decide) (by decide) rfl rfl (x_tb (i := 294) (by decide +kernel) rfl) rfl rfl (tyX0_ok 0 (by decide)) (fun _ => rfl) (fun _ => rfl) (by omega) (by omega) dX0_init_6 ?_
    exact zw_vret C dX0_init_9
end ZI
