section ZI
variable {l : Launch} {D : va_G} {iC : Nat → ClassId} {b0 : Nat} {Z : State → Prop} {rq : zw_R} {σ : x_Hp}
def zq_0 : zw_R := fun _ _ => none
def zs_0 : x_Hp := (fun _ _ => 0, fun _ _ => 0)
def zr_X : zw_R := (zl_rq 141 171 (zw_u (zw_u (zw_u (zw_u (zw_u (zr_X3_143 (zw_u (zw_u (zw_u (zr_X7_39 (zw_u (zw_u (zw_u (zw_u (zw_u (zr_X0_34 (zw_u (zr_X4_14 (zw_u (zr_X6_1 zq_0) 0 0 1)) 0 1 14)) 0 2 34) 35 20 36) 0 3 35) 37 20 38) 0 4 37)) 0 5 39) 0 6 141) 0 7 142)) 0 8 143) 0 9 167) 0 10 168) 0 11 169) 0 12 170) 3)
def zs_X : x_Hp := (zl_s 171 (zs_X3_143 (zs_X7_39 (zs_St (zs_St (zs_X0_34 (zs_X4_14 (zs_X6_1 zs_0))) 35) 37))) 3)
set_option maxHeartbeats 4000000 in
set_option maxRecDepth 100000 in
theorem zt_X {p : Program} {e : Env} {R : Room} {s : State} {m : MethodId} {args : Array Value} {below : List Frame} {meth : Method} {c : Code} {Q : State → Prop} {ad0 : Nat → Nat} (hZ : zw_OK b0 Z) (C : zw_C p s m args meth c cX8_init 2 yX8_init.cls D iC b0 Z) (hR : 4 ≤ R.frames ∧ 72 ≤ R.locals) (hcs : 176 ≤ R.cells ∧ 9676 ≤ R.slots) (kx : zw_W p l e R s m args below meth c Q D iC TX b0 1 ad0 2 170 [(1, .inr (.int (nI 3))), (0, .inl (some 0))] [] 177 zr_X zs_X 176 9676) : zw_W p l e R s m args below meth c Q D iC TX b0 1 ad0 2 0 [(0, .inl (some 0))] [] 1 zq_0 zs_0 0 0 := by
  refine zw_aload C 0 dX8_init_0 rfl ?_
  refine zw_obj C (x_tb (i := 122) (by decide +kernel) rfl) (x_tb (i := 123) (by decide +kernel) rfl) (x_tb (i := 124) (by decide +kernel) rfl) ⟨by omega, by omega⟩ dX8_init_1 ?_
  refine zw_aload C 0 dX8_init_4 rfl ?_
  refine zw_new C (ci := 6) tyX6 (by decide +kernel) (by decide) rfl x_in6 tyX6_ok (x_tb (i := 125) (by decide +kernel) rfl) (x_tb (i := 126) (by decide +kernel) rfl) (x_tb (i := 103) (by decide +kernel) rfl) zf_6 (by simp [zw_b] <;> omega) (by simp [zw_b] <;> omega) ⟨by omega, by omega⟩ dX8_init_5 ?_
  refine zw_dup C dX8_init_8 ?_
  refine zw_callI C (na := 0) (As := []) (zc_X6_1 (l := l) (D := D) (iC := iC) hZ) (host := "BabyRound") (i := 127) (by decide +kernel) rfl (x_tb (i := 128) (by decide +kernel) rfl) (x_tb (i := 103) (by decide +kernel) rfl) (x_tb (i := 129) (by decide +kernel) rfl) (by decide +kernel) rfl ⟨by omega, by omega⟩ ⟨rfl, rfl⟩ ⟨by omega, by omega⟩ rfl (fun _ => Nat.le_of_ble_eq_true rfl) (by simp [zw_b] <;> omega) (by simp [zw_b] <;> omega) dX8_init_9 ?_
  refine zw_putR C (ci := 8) (f := 0) tyX8 (by decide +kernel) (by decide) rfl x_in8 tyX8_ok nmX8 (by decide) (by decide) rfl rfl (x_tb (i := 543) (by decide +kernel) rfl) rfl rfl (tyX8_ok 0 (by decide)) (fun _ => rfl) (fun _ => rfl) (by omega) (by omega) dX8_init_12 ?_
  refine zw_aload C 0 dX8_init_15 rfl ?_
  refine zw_new C (ci := 4) tyX4 (by decide +kernel) (by decide) rfl x_in4 tyX4_ok (x_tb (i := 236) (by decide +kernel) rfl) (x_tb (i := 237) (by decide +kernel) rfl) (x_tb (i := 105) (by decide +kernel) rfl) zf_4 (by simp [zw_b] <;> omega) (by simp [zw_b] <;> omega) ⟨by omega, by omega⟩ dX8_init_16 ?_
  refine zw_dup C dX8_init_19 ?_
  refine zw_callI C (na := 0) (As := []) (zc_X4_14 (l := l) (D := D) (iC := iC) hZ) (host := "BabyRound") (i := 238) (by decide +kernel) rfl (x_tb (i := 239) (by decide +kernel) rfl) (x_tb (i := 105) (by decide +kernel) rfl) (x_tb (i := 240) (by decide +kernel) rfl) (by decide +kernel) rfl ⟨by omega, by omega⟩ ⟨rfl, rfl⟩ ⟨by omega, by omega⟩ rfl (fun _ => Nat.le_of_ble_eq_true rfl) (by simp [zw_b] <;> omega) (by simp [zw_b] <;> omega) dX8_init_20 ?_
  refine zw_putR C (ci := 8) (f := 1) tyX8 (by decide +kernel) (by decide) rfl x_in8 tyX8_ok nmX8 (by decide) (by decide) rfl rfl (x_tb (i := 544) (by decide +kernel) rfl) rfl rfl (tyX8_ok 1 (by decide)) (fun _ => rfl) (fun _ => rfl) (by omega) (by omega) dX8_init_23 ?_
  refine zw_aload C 0 dX8_init_26 rfl ?_
  refine zw_new C (ci := 0) tyX0 (by decide +kernel) (by decide) rfl x_in0 tyX0_ok (x_tb (i := 288) (by decide +kernel) rfl) (x_tb (i := 289) (by decide +kernel) rfl) (x_tb (i := 106) (by decide +kernel) rfl) zf_0 (by simp [zw_b] <;> omega) (by simp [zw_b] <;> omega) ⟨by omega, by omega⟩ dX8_init_27 ?_
  refine zw_dup C dX8_init_30 ?_
  refine zw_aload C 0 dX8_init_31 rfl ?_
  refine zw_getR C (ci := 8) (f := 0) (j := 1) (by decide +kernel) (by decide) rfl x_in8 (by decide) (by decide) rfl rfl (x_tb (i := 543) (by decide +kernel) rfl) (by omega) (by decide +kernel) dX8_init_32 ?_
  refine zw_callP C (na := 1) (As := [.inl (some (1))]) (zc_X0_34 (l := l) (D := D) (iC := iC) hZ) (x_tb (i := 290) (by decide +kernel) rfl) rfl (x_tb (i := 291) (by decide +kernel) rfl) (x_tb (i := 106) (by decide +kernel) rfl) (x_tb (i := 292) (by decide +kernel) rfl) (by decide +kernel) rfl ⟨by omega, by omega⟩ ⟨rfl, rfl⟩ ⟨by omega, by omega⟩ rfl (fun _ => Nat.le_of_ble_eq_true rfl) (by simp [zw_b] <;> omega) (by simp [zw_b] <;> omega) dX8_init_35 ?_
  refine zw_putR C (ci := 8) (f := 2) tyX8 (by decide +kernel) (by decide) rfl x_in8 tyX8_ok nmX8 (by decide) (by decide) rfl rfl (x_tb (i := 545) (by decide +kernel) rfl) rfl rfl (tyX8_ok 2 (by decide)) (fun _ => rfl) (fun _ => rfl) (by omega) (by omega) dX8_init_38 ?_
  refine zw_aload C 0 dX8_init_41 rfl ?_
  refine zw_new C (ci := 5) tyX5 (by decide +kernel) (by decide) rfl x_in5 tyX5_ok (x_tb (i := 299) (by decide +kernel) rfl) (x_tb (i := 300) (by decide +kernel) rfl) (x_tb (i := 107) (by decide +kernel) rfl) zf_5 (by simp [zw_b] <;> omega) (by simp [zw_b] <;> omega) ⟨by omega, by omega⟩ dX8_init_42 ?_
  refine zw_dup C dX8_init_45 ?_
  refine zw_callI C (na := 0) (As := []) (zc_St (l := l) (D := D) (iC := iC) hZ (o := 35) (by decide +kernel) (by decide +kernel) (by decide +kernel)) (host := "BabyRound") (i := 301) (by decide +kernel) rfl (x_tb (i := 302) (by decide +kernel) rfl) (x_tb (i := 107) (by decide +kernel) rfl) (x_tb (i := 303) (by decide +kernel) rfl) (by decide +kernel) rfl ⟨by omega, by omega⟩ ⟨rfl, rfl⟩ ⟨by omega, by omega⟩ rfl (fun _ => Nat.le_of_ble_eq_true rfl) (by simp [zw_b] <;> omega) (by simp [zw_b] <;> omega) dX8_init_46 ?_
  refine zw_putR C (ci := 8) (f := 3) tyX8 (by decide +kernel) (by decide) rfl x_in8 tyX8_ok nmX8 (by decide) (by decide) rfl rfl (x_tb (i := 546) (by decide +kernel) rfl) rfl rfl (tyX8_ok 3 (by decide)) (fun _ => rfl) (fun _ => rfl) (by omega) (by omega) dX8_init_49 ?_
  refine zw_aload C 0 dX8_init_52 rfl ?_
  refine zw_new C (ci := 5) tyX5 (by decide +kernel) (by decide) rfl x_in5 tyX5_ok (x_tb (i := 299) (by decide +kernel) rfl) (x_tb (i := 300) (by decide +kernel) rfl) (x_tb (i := 107) (by decide +kernel) rfl) zf_5 (by simp [zw_b] <;> omega) (by simp [zw_b] <;> omega) ⟨by omega, by omega⟩ dX8_init_53 ?_
  refine zw_dup C dX8_init_56 ?_
  refine zw_callI C (na := 0) (As := []) (zc_St (l := l) (D := D) (iC := iC) hZ (o := 37) (by decide +kernel) (by decide +kernel) (by decide +kernel)) (host := "BabyRound") (i := 301) (by decide +kernel) rfl (x_tb (i := 302) (by decide +kernel) rfl) (x_tb (i := 107) (by decide +kernel) rfl) (x_tb (i := 303) (by decide +kernel) rfl) (by decide +kernel) rfl ⟨by omega, by omega⟩ ⟨rfl, rfl⟩ ⟨by omega, by omega⟩ rfl (fun _ => Nat.le_of_ble_eq_true rfl) (by simp [zw_b] <;> omega) (by simp [zw_b] <;> omega) dX8_init_57 ?_
  refine zw_putR C (ci := 8) (f := 4) tyX8 (by decide +kernel) (by decide) rfl x_in8 tyX8_ok nmX8 (by decide) (by decide) rfl rfl (x_tb (i := 547) (by decide +kernel) rfl) rfl rfl (tyX8_ok 4 (by decide)) (fun _ => rfl) (fun _ => rfl) (by omega) (by omega) dX8_init_60 ?_
  refine zw_aload C 0 dX8_init_63 rfl ?_
  refine zw_new C (ci := 7) tyX7 (by decide +kernel) (by decide) rfl x_in7 tyX7_ok (x_tb (i := 409) (by decide +kernel) rfl) (x_tb (i := 410) (by decide +kernel) rfl) (x_tb (i := 108) (by decide +kernel) rfl) zf_7 (by simp [zw_b] <;> omega) (by simp [zw_b] <;> omega) ⟨by omega, by omega⟩ dX8_init_64 ?_
  refine zw_dup C dX8_init_67 ?_
  refine zw_callP C (na := 0) (As := []) (zc_X7_39 (l := l) (D := D) (iC := iC) hZ) (x_tb (i := 411) (by decide +kernel) rfl) rfl (x_tb (i := 412) (by decide +kernel) rfl) (x_tb (i := 108) (by decide +kernel) rfl) (x_tb (i := 413) (by decide +kernel) rfl) (by decide +kernel) rfl ⟨by omega, by omega⟩ ⟨rfl, rfl⟩ ⟨by omega, by omega⟩ rfl (fun _ => Nat.le_of_ble_eq_true rfl) (by simp [zw_b] <;> omega) (by simp [zw_b] <;> omega) dX8_init_68 ?_
  refine zw_putR C (ci := 8) (f := 5) tyX8 (by decide +kernel) (by decide) rfl x_in8 tyX8_ok nmX8 (by decide) (by decide) rfl rfl (x_tb (i := 548) (by decide +kernel) rfl) rfl rfl (tyX8_ok 5 (by decide)) (fun _ => rfl) (fun _ => rfl) (by omega) (by omega) dX8_init_71 ?_
  refine zw_aload C 0 dX8_init_74 rfl ?_
  refine zw_iconst C (3 : Int32) dX8_init_75 (by decide) ?_
  refine zw_newq C (N' := 3) (x_tb (i := 299) (by decide +kernel) rfl) (by decide +kernel) (by decide +kernel) (by decide) (by decide) (Nat.le_of_ble_eq_true rfl) (by simp [zw_b] <;> omega) (by simp [zw_b] <;> omega) ⟨by omega, by omega⟩ dX8_init_76 ?_
  refine zw_putR C (ci := 8) (f := 6) tyX8 (by decide +kernel) (by decide) rfl x_in8 tyX8_ok nmX8 (by decide) (by decide) rfl rfl (x_tb (i := 549) (by decide +kernel) rfl) rfl rfl (tyX8_ok 6 (by decide)) (fun _ => rfl) (fun _ => rfl) (by omega) (by omega) dX8_init_79 ?_
  refine zw_aload C 0 dX8_init_82 rfl ?_
  refine zw_iconst C (3 : Int32) dX8_init_83 (by decide) ?_
  refine zw_newa C (atype := .int) (ty := .int) (t0 := 2) (N' := 3) (a0 := (3, .inl (fun _ => 0))) rfl (x_tb (i := 163) (by decide +kernel) rfl) rfl (fun ad zq_0 hc => zw_E0i (kk := 12) hc (by decide +kernel) (by decide +kernel) (by decide)) (fun _ => rfl) (by decide) (by decide) (Nat.le_of_ble_eq_true rfl) (by simp [zw_b] <;> omega) (by simp [zw_b] <;> omega) ⟨by omega, by omega⟩ dX8_init_84 ?_
  refine zw_putR C (ci := 8) (f := 7) tyX8 (by decide +kernel) (by decide) rfl x_in8 tyX8_ok nmX8 (by decide) (by decide) rfl rfl (x_tb (i := 550) (by decide +kernel) rfl) rfl rfl (tyX8_ok 7 (by decide)) (fun _ => rfl) (fun _ => rfl) (by omega) (by omega) dX8_init_86 ?_
  refine zw_aload C 0 dX8_init_89 rfl ?_
  refine zw_new C (ci := 3) tyX3 (by decide +kernel) (by decide) rfl x_in3 tyX3_ok (x_tb (i := 433) (by decide +kernel) rfl) (x_tb (i := 434) (by decide +kernel) rfl) (x_tb (i := 109) (by decide +kernel) rfl) zf_3 (by simp [zw_b] <;> omega) (by simp [zw_b] <;> omega) ⟨by omega, by omega⟩ dX8_init_90 ?_
  refine zw_dup C dX8_init_93 ?_
  refine zw_aload C 0 dX8_init_94 rfl ?_
  refine zw_getR C (ci := 8) (f := 2) (j := 34) (by decide +kernel) (by decide) rfl x_in8 (by decide) (by decide) rfl rfl (x_tb (i := 545) (by decide +kernel) rfl) (by omega) (by decide +kernel) dX8_init_95 ?_
  refine zw_callP C (na := 1) (As := [.inl (some (34))]) (zc_X3_143 (l := l) (D := D) (iC := iC) hZ) (x_tb (i := 435) (by decide +kernel) rfl) rfl (x_tb (i := 436) (by decide +kernel) rfl) (x_tb (i := 109) (by decide +kernel) rfl) (x_tb (i := 437) (by decide +kernel) rfl) (by decide +kernel) rfl ⟨by omega, by omega⟩ ⟨rfl, rfl⟩ ⟨by omega, by omega⟩ rfl (fun _ => Nat.le_of_ble_eq_true rfl) (by simp [zw_b] <;> omega) (by simp [zw_b] <;> omega) dX8_init_98 ?_
  refine zw_putR C (ci := 8) (f := 8) tyX8 (by decide +kernel) (by decide) rfl x_in8 tyX8_ok nmX8 (by decide) (by decide) rfl rfl (x_tb (i := 551) (by decide +kernel) rfl) rfl rfl (tyX8_ok 8 (by decide)) (fun _ => rfl) (fun _ => rfl) (by omega) (by omega) dX8_init_101 ?_
  refine zw_aload C 0 dX8_init_104 rfl ?_
  refine zw_new C (ci := 2) tyX2 (by decide +kernel) (by decide) rfl x_in2 tyX2_ok (x_tb (i := 503) (by decide +kernel) rfl) (x_tb (i := 442) (by decide +kernel) rfl) (x_tb (i := 110) (by decide +kernel) rfl) zf_2 (by simp [zw_b] <;> omega) (by simp [zw_b] <;> omega) ⟨by omega, by omega⟩ dX8_init_105 ?_
  refine zw_dup C dX8_init_108 ?_
  refine zw_callI C (na := 0) (As := []) (zc_Le (l := l) (D := D) (iC := iC) hZ (o := 167)) (host := "BabyRound") (i := 504) (by decide +kernel) rfl (x_tb (i := 444) (by decide +kernel) rfl) (x_tb (i := 110) (by decide +kernel) rfl) (x_tb (i := 445) (by decide +kernel) rfl) (by decide +kernel) rfl ⟨by omega, by omega⟩ ⟨rfl, rfl⟩ ⟨by omega, by omega⟩ rfl (fun _ => Nat.le_of_ble_eq_true rfl) (by simp [zw_b] <;> omega) (by simp [zw_b] <;> omega) dX8_init_109 ?_
  refine zw_putR C (ci := 8) (f := 9) tyX8 (by decide +kernel) (by decide) rfl x_in8 tyX8_ok nmX8 (by decide) (by decide) rfl rfl (x_tb (i := 552) (by decide +kernel) rfl) rfl rfl (tyX8_ok 9 (by decide)) (fun _ => rfl) (fun _ => rfl) (by omega) (by omega) dX8_init_112 ?_
  refine zw_aload C 0 dX8_init_115 rfl ?_
  refine zw_sipush C (384 : Int32) dX8_init_116 (by decide) ?_
  refine zw_newa C (atype := .int) (ty := .int) (t0 := 2) (N' := 384) (a0 := (384, .inl (fun _ => 0))) rfl (x_tb (i := 163) (by decide +kernel) rfl) rfl (fun ad zq_0 hc => zw_E0i (kk := 12) hc (by decide +kernel) (by decide +kernel) (by decide)) (fun _ => rfl) (by decide) (by decide) (Nat.le_of_ble_eq_true rfl) (by simp [zw_b] <;> omega) (by simp [zw_b] <;> omega) ⟨by omega, by omega⟩ dX8_init_119 ?_
  refine zw_putR C (ci := 8) (f := 10) tyX8 (by decide +kernel) (by decide) rfl x_in8 tyX8_ok nmX8 (by decide) (by decide) rfl rfl (x_tb (i := 553) (by decide +kernel) rfl) rfl rfl (tyX8_ok 10 (by decide)) (fun _ => rfl) (fun _ => rfl) (by omega) (by omega) dX8_init_121 ?_
  refine zw_aload C 0 dX8_init_124 rfl ?_
  refine zw_bipush C (20 : Int32) dX8_init_125 (by decide) ?_
  refine zw_newa C (atype := .int) (ty := .int) (t0 := 2) (N' := 20) (a0 := (20, .inl (fun _ => 0))) rfl (x_tb (i := 163) (by decide +kernel) rfl) rfl (fun ad zq_0 hc => zw_E0i (kk := 12) hc (by decide +kernel) (by decide +kernel) (by decide)) (fun _ => rfl) (by decide) (by decide) (Nat.le_of_ble_eq_true rfl) (by simp [zw_b] <;> omega) (by simp [zw_b] <;> omega) ⟨by omega, by omega⟩ dX8_init_127 ?_
  refine zw_putR C (ci := 8) (f := 11) tyX8 (by decide +kernel) (by decide) rfl x_in8 tyX8_ok nmX8 (by decide) (by decide) rfl rfl (x_tb (i := 554) (by decide +kernel) rfl) rfl rfl (tyX8_ok 11 (by decide)) (fun _ => rfl) (fun _ => rfl) (by omega) (by omega) dX8_init_129 ?_
  refine zw_aload C 0 dX8_init_132 rfl ?_
  refine zw_bipush C (20 : Int32) dX8_init_133 (by decide) ?_
  refine zw_newa C (atype := .int) (ty := .int) (t0 := 2) (N' := 20) (a0 := (20, .inl (fun _ => 0))) rfl (x_tb (i := 163) (by decide +kernel) rfl) rfl (fun ad zq_0 hc => zw_E0i (kk := 12) hc (by decide +kernel) (by decide +kernel) (by decide)) (fun _ => rfl) (by decide) (by decide) (Nat.le_of_ble_eq_true rfl) (by simp [zw_b] <;> omega) (by simp [zw_b] <;> omega) ⟨by omega, by omega⟩ dX8_init_135 ?_
  refine zw_putR C (ci := 8) (f := 12) tyX8 (by decide +kernel) (by decide) rfl x_in8 tyX8_ok nmX8 (by decide) (by decide) rfl rfl (x_tb (i := 555) (by decide +kernel) rfl) rfl rfl (tyX8_ok 12 (by decide)) (fun _ => rfl) (fun _ => rfl) (by omega) (by omega) dX8_init_137 ?_
  refine zw_iconst C (nI 0) dX8_init_140 (by decide) ?_
  refine zw_istore C [(1, .inr (.int (nI 0))), (0, .inl (some 0))] dX8_init_141 rfl (by decide) (fun ad q hq => by simp only [List.mem_cons, List.not_mem_nil, or_false] at hq; subst hq; rfl) rfl ?_
  refine zl_X8 (rq := (zw_u (zw_u (zw_u (zw_u (zw_u (zr_X3_143 (zw_u (zw_u (zw_u (zr_X7_39 (zw_u (zw_u (zw_u (zw_u (zw_u (zr_X0_34 (zw_u (zr_X4_14 (zw_u (zr_X6_1 zq_0) 0 0 1)) 0 1 14)) 0 2 34) 35 20 36) 0 3 35) 37 20 38) 0 4 37)) 0 5 39) 0 6 141) 0 7 142)) 0 8 143) 0 9 167) 0 10 168) 0 11 169) 0 12 170)) (σ := (zs_X3_143 (zs_X7_39 (zs_St (zs_St (zs_X0_34 (zs_X4_14 (zs_X6_1 zs_0))) 35) 37)))) (mc := 170) (ms := 9487) hZ C ⟨by omega, by omega⟩ ⟨by omega, by omega⟩ (by decide +kernel) ?_ 3 0 rfl
  exact kx
end ZI
