section ZI
variable {l : Launch} {D : va_G} {iC : Nat → ClassId} {b0 : Nat} {Z : State → Prop} {rq : zw_R} {σ : x_Hp}
set_option maxHeartbeats 4000000 in
set_option maxRecDepth 100000 in
theorem zl_X7 {p : Program} {e : Env} {R : Room} {s : State} {m : MethodId} {args : Array Value} {below : List Frame} {meth : Method} {c : Code} {Q : State → Prop} {n0 : Nat} {ad0 : Nat → Nat} {mc ms : Nat} (hZ : zw_OK b0 Z) (C : zw_C p s m args meth c cX7_init 2 yX7_init.cls D iC b0 Z) (hR : 2 ≤ R.frames ∧ 32 ≤ R.locals) (hcs : mc + 100 ≤ R.cells ∧ ms + 3150 ≤ R.slots) (hra : rq 39 0 = some 40) (kx : zw_W p l e R s m args below meth c Q D iC TX b0 n0 ad0 2 43 [(1, .inr (.int (nI 50))), (0, .inl (some 39))] [] (141) (zl_rq 40 41 rq 50) (zl_s 41 σ 50) (mc + 100) (ms + 3150)) : ∀ d i, i + d = 50 → zw_W p l e R s m args below meth c Q D iC TX b0 n0 ad0 2 15 [(1, .inr (.int (nI i))), (0, .inl (some 39))] [] (41 + 2 * i) (zl_rq 40 41 rq i) (zl_s 41 σ i) (mc + 2 * i) (ms + 63 * i) := by
  have hra' : ∀ i, zl_rq 40 41 rq i 39 0 = some 40 := fun i => by rw [zl_o _ _ _ (by decide) (by decide)]; exact hra
  intro d
  induction d with
  | zero =>
    intro i hi
    have : i = 50 := by omega
    subst this
    refine zw_iload C 0 dX7_init_15 rfl ?_
    refine zw_aload C 1 dX7_init_16 rfl ?_
    refine zw_getR C (ci := 7) (f := 0) (j := 40) (by decide +kernel) (by decide) rfl x_in7 (by decide) (by decide) rfl rfl (x_tb (i := 418) (by decide +kernel) rfl) (by omega) (hra' _) dX7_init_17 ?_
    refine zw_alen C (nI 50) (by decide +kernel) (by decide +kernel) (by omega) dX7_init_20 ?_
    exact zw_icmp_ge C 43 dX7_init_21 rfl (fun _ => kx) (fun q => absurd (nI_le (Nat.le_refl _) (by decide)) q)
  | succ d ih =>
    intro i hi
    refine zw_iload C 0 dX7_init_15 rfl ?_
    refine zw_aload C 1 dX7_init_16 rfl ?_
    refine zw_getR C (ci := 7) (f := 0) (j := 40) (by decide +kernel) (by decide) rfl x_in7 (by decide) (by decide) rfl rfl (x_tb (i := 418) (by decide +kernel) rfl) (by omega) (hra' _) dX7_init_17 ?_
    refine zw_alen C (nI 50) (by decide +kernel) (by decide +kernel) (by omega) dX7_init_20 ?_
    refine zw_icmp_ge C 43 dX7_init_21 rfl (fun q => absurd q (nI_ge (by omega) (by decide))) (fun _ => ?_)
    refine zw_aload C 1 dX7_init_24 rfl ?_
    refine zw_getR C (ci := 7) (f := 0) (j := 40) (by decide +kernel) (by decide) rfl x_in7 (by decide) (by decide) rfl rfl (x_tb (i := 418) (by decide +kernel) rfl) (by omega) (hra' _) dX7_init_25 ?_
    refine zw_iload C 0 dX7_init_28 rfl ?_
    refine zw_new C (ci := 5) tyX5 (zk_40 i (by omega)).1 (by decide) rfl x_in5 tyX5_ok (x_tb (i := 415) (by decide +kernel) rfl) (x_tb (i := 300) (by decide +kernel) rfl) (x_tb (i := 107) (by decide +kernel) rfl) zf_5 (by simp [zw_b] <;> omega) (by simp [zw_b] <;> omega) ⟨by omega, by omega⟩ dX7_init_29 ?_
    refine zw_dup C dX7_init_32 ?_
    refine zw_callI C (na := 0) (As := []) (zc_St (l := l) (D := D) (iC := iC) hZ (o := 41 + 2 * i) (zk_40 i (by omega)).1 (zk_40 i (by omega)).2.1 (zk_40 i (by omega)).2.2) (host := "BabyRound") (i := 417) (by decide +kernel) rfl (x_tb (i := 302) (by decide +kernel) rfl) (x_tb (i := 107) (by decide +kernel) rfl) (x_tb (i := 303) (by decide +kernel) rfl) (by decide +kernel) rfl ⟨hR.1, hR.2⟩ ⟨rfl, rfl⟩ ⟨by omega, by omega⟩ rfl (fun _ => Nat.le_of_ble_eq_true rfl) (by simp [zw_b] <;> omega) (by simp [zw_b] <;> omega) dX7_init_33 ?_
    refine zw_astq C (i := i) (by decide +kernel) (zk_40 i (by omega)).1 (by rw [show x_ln TX 40 = 50 by decide +kernel]; omega) (by decide +kernel) (by omega) (by omega) dX7_init_36 ?_
    refine zw_iinc C 0 (nI (i + 1)) [(1, .inr (.int (nI (i + 1)))), (0, .inl (some 39))] dX7_init_37 rfl (nI_1 i) (by decide) (fun ad q hq => by simp only [List.mem_cons, List.not_mem_nil, or_false] at hq; rcases hq with rfl | rfl <;> rfl) rfl ?_
    refine zw_goto C 15 dX7_init_40 rfl ?_
    have g := ih (i + 1) (by omega)
    rw [show 41 + 2 * (i + 1) = 41 + 2 * i + 1 + 1 by omega, show mc + 2 * (i + 1) = mc + 2 * i + 1 + 1 by omega, show ms + 63 * (i + 1) = ms + 63 * i + 21 + 42 by omega] at g
    exact g
def zr_X7_39 (rq : zw_R) : zw_R := (zl_rq 40 41 (zw_u rq 39 0 40) 50)
def zs_X7_39 (σ : x_Hp) : x_Hp := (zl_s 41 σ 50)
abbrev rm_zX7_39 : Room := { frames := 2, cells := 101, slots := 3200, locals := 32 }
set_option maxHeartbeats 4000000 in
set_option maxRecDepth 100000 in
theorem zc_X7_39 (hZ : zw_OK b0 Z) : zw_M l D iC TX b0 Z yX7_init cX7_init 2 rm_zX7_39 101 3200 [.inl (some (39))] 40 rq σ 141 (zr_X7_39 rq) (zs_X7_39 σ) := by
  refine zw_M.of hZ (lv := [(0, .inl (some (39)))]) (by decide) rfl (fun _ => Nat.le_of_ble_eq_true rfl) (fun _ => rfl) (fun hc0 => ?_) (fun ad0 p e s m args below meth c C => ?_)
  · have hc1 := zw_clN hc0
    have hc2 := zw_clU (o := 39) (k := 0) (j := 40) hc1 (by omega) (by omega)
    have hc3 := zl_cl (a := 40) (b := 41) (by omega) hc2 50
    exact ⟨by omega, hc3⟩
  · refine zw_aload C 0 dX7_init_0 rfl ?_
    refine zw_obj C (x_tb (i := 414) (by decide +kernel) rfl) (x_tb (i := 123) (by decide +kernel) rfl) (x_tb (i := 124) (by decide +kernel) rfl) ⟨Nat.le_of_ble_eq_true rfl, Nat.le_of_ble_eq_true rfl⟩ dX7_init_1 ?_
    refine zw_aload C 0 dX7_init_4 rfl ?_
    refine zw_bipush C (50 : Int32) dX7_init_5 (by decide) ?_
    refine zw_newq C (N' := 50) (x_tb (i := 415) (by decide +kernel) rfl) (by decide +kernel) (by decide +kernel) (by decide) (by decide) (Nat.le_of_ble_eq_true rfl) (by simp [zw_b] <;> omega) (by simp [zw_b] <;> omega) ⟨Nat.le_of_ble_eq_true rfl, Nat.le_of_ble_eq_true rfl⟩ dX7_init_7 ?_
    refine zw_putR C (ci := 7) (f := 0) tyX7 (by decide +kernel) (by decide) rfl x_in7 tyX7_ok nmX7 (by decide) (by decide) rfl rfl (x_tb (i := 418) (by decide +kernel) rfl) rfl rfl (tyX7_ok 0 (by decide)) (fun _ => rfl) (fun _ => rfl) (by omega) (by omega) dX7_init_10 ?_
    refine zw_iconst C (nI 0) dX7_init_13 (by decide) ?_
    refine zw_istore C [(1, .inr (.int (nI 0))), (0, .inl (some 39))] dX7_init_14 rfl (by decide) (fun ad q hq => by simp only [List.mem_cons, List.not_mem_nil, or_false] at hq; subst hq; rfl) rfl ?_
    refine zl_X7 (rq := (zw_u rq 39 0 40)) (σ := σ) (mc := 1) (ms := 50) hZ C ⟨Nat.le_of_ble_eq_true rfl, Nat.le_of_ble_eq_true rfl⟩ ⟨Nat.le_of_ble_eq_true rfl, Nat.le_of_ble_eq_true rfl⟩ (by simp [zw_u]) ?_ 50 0 rfl
    exact zw_vret C dX7_init_43
set_option maxHeartbeats 4000000 in
set_option maxRecDepth 100000 in
theorem zl_X3 {p : Program} {e : Env} {R : Room} {s : State} {m : MethodId} {args : Array Value} {below : List Frame} {meth : Method} {c : Code} {Q : State → Prop} {n0 : Nat} {ad0 : Nat → Nat} {mc ms : Nat} (hZ : zw_OK b0 Z) (C : zw_C p s m args meth c cX3_init 3 yX3_init.cls D iC b0 Z) (hR : 2 ≤ R.frames ∧ 32 ≤ R.locals) (hcs : mc + 14 ≤ R.cells ∧ ms + 441 ≤ R.slots) (hra : rq 143 1 = some 144) (kx : zw_W p l e R s m args below meth c Q D iC TX b0 n0 ad0 3 113 [(2, .inr (.int (nI 7))), (0, .inl (some 143)), (1, .inl (some 34))] [] (167) (zl_rq 144 153 rq 7) (zl_s 153 σ 7) (mc + 14) (ms + 441)) : ∀ d i, i + d = 7 → zw_W p l e R s m args below meth c Q D iC TX b0 n0 ad0 3 85 [(2, .inr (.int (nI i))), (0, .inl (some 143)), (1, .inl (some 34))] [] (153 + 2 * i) (zl_rq 144 153 rq i) (zl_s 153 σ i) (mc + 2 * i) (ms + 63 * i) := by
  have hra' : ∀ i, zl_rq 144 153 rq i 143 1 = some 144 := fun i => by rw [zl_o _ _ _ (by decide) (by decide)]; exact hra
  intro d
  induction d with
  | zero =>
    intro i hi
    have : i = 7 := by omega
    subst this
    refine zw_iload C 0 dX3_init_85 rfl ?_
    refine zw_aload C 1 dX3_init_86 rfl ?_
    refine zw_getR C (ci := 3) (f := 1) (j := 144) (by decide +kernel) (by decide) rfl x_in3 (by decide) (by decide) rfl rfl (x_tb (i := 462) (by decide +kernel) rfl) (by omega) (hra' _) dX3_init_87 ?_
    refine zw_alen C (nI 7) (by decide +kernel) (by decide +kernel) (by omega) dX3_init_90 ?_
    exact zw_icmp_ge C 113 dX3_init_91 rfl (fun _ => kx) (fun q => absurd (nI_le (Nat.le_refl _) (by decide)) q)
  | succ d ih =>
    intro i hi
    refine zw_iload C 0 dX3_init_85 rfl ?_
    refine zw_aload C 1 dX3_init_86 rfl ?_
    refine zw_getR C (ci := 3) (f := 1) (j := 144) (by decide +kernel) (by decide) rfl x_in3 (by decide) (by decide) rfl rfl (x_tb (i := 462) (by decide +kernel) rfl) (by omega) (hra' _) dX3_init_87 ?_
    refine zw_alen C (nI 7) (by decide +kernel) (by decide +kernel) (by omega) dX3_init_90 ?_
    refine zw_icmp_ge C 113 dX3_init_91 rfl (fun q => absurd q (nI_ge (by omega) (by decide))) (fun _ => ?_)
    refine zw_aload C 1 dX3_init_94 rfl ?_
    refine zw_getR C (ci := 3) (f := 1) (j := 144) (by decide +kernel) (by decide) rfl x_in3 (by decide) (by decide) rfl rfl (x_tb (i := 462) (by decide +kernel) rfl) (by omega) (hra' _) dX3_init_95 ?_
    refine zw_iload C 0 dX3_init_98 rfl ?_
    refine zw_new C (ci := 5) tyX5 (zk_144 i (by omega)).1 (by decide) rfl x_in5 tyX5_ok (x_tb (i := 439) (by decide +kernel) rfl) (x_tb (i := 300) (by decide +kernel) rfl) (x_tb (i := 107) (by decide +kernel) rfl) zf_5 (by simp [zw_b] <;> omega) (by simp [zw_b] <;> omega) ⟨by omega, by omega⟩ dX3_init_99 ?_
    refine zw_dup C dX3_init_102 ?_
    refine zw_callI C (na := 0) (As := []) (zc_St (l := l) (D := D) (iC := iC) hZ (o := 153 + 2 * i) (zk_144 i (by omega)).1 (zk_144 i (by omega)).2.1 (zk_144 i (by omega)).2.2) (host := "BabyRound") (i := 440) (by decide +kernel) rfl (x_tb (i := 302) (by decide +kernel) rfl) (x_tb (i := 107) (by decide +kernel) rfl) (x_tb (i := 303) (by decide +kernel) rfl) (by decide +kernel) rfl ⟨hR.1, hR.2⟩ ⟨rfl, rfl⟩ ⟨by omega, by omega⟩ rfl (fun _ => Nat.le_of_ble_eq_true rfl) (by simp [zw_b] <;> omega) (by simp [zw_b] <;> omega) dX3_init_103 ?_
    refine zw_astq C (i := i) (by decide +kernel) (zk_144 i (by omega)).1 (by rw [show x_ln TX 144 = 7 by decide +kernel]; omega) (by decide +kernel) (by omega) (by omega) dX3_init_106 ?_
    refine zw_iinc C 0 (nI (i + 1)) [(2, .inr (.int (nI (i + 1)))), (0, .inl (some 143)), (1, .inl (some 34))] dX3_init_107 rfl (nI_1 i) (by decide) (fun ad q hq => by simp only [List.mem_cons, List.not_mem_nil, or_false] at hq; rcases hq with rfl | rfl | rfl <;> rfl) rfl ?_
    refine zw_goto C 85 dX3_init_110 rfl ?_
    have g := ih (i + 1) (by omega)
    rw [show 153 + 2 * (i + 1) = 153 + 2 * i + 1 + 1 by omega, show mc + 2 * (i + 1) = mc + 2 * i + 1 + 1 by omega, show ms + 63 * (i + 1) = ms + 63 * i + 21 + 42 by omega] at g
    exact g
def zr_X3_143 (rq : zw_R) : zw_R := (zl_rq 144 153 (zw_u (zw_u (zw_u (zw_u (zw_u (zw_u (zw_u (zw_u (zw_u (zw_u rq 143 1 144) 143 2 145) 146 20 147) 143 3 146) 143 4 148) 143 5 149) 143 6 150) 143 7 151) 143 8 152) 143 0 34) 7)
def zs_X3_143 (σ : x_Hp) : x_Hp := (zl_s 153 (zs_St σ 146) 7)
abbrev rm_zX3_143 : Room := { frames := 2, cells := 23, slots := 542, locals := 32 }
set_option maxHeartbeats 4000000 in
set_option maxRecDepth 100000 in
theorem zc_X3_143 (hZ : zw_OK b0 Z) : zw_M l D iC TX b0 Z yX3_init cX3_init 3 rm_zX3_143 23 542 [.inl (some (143)), .inl (some (34))] 144 rq σ 167 (zr_X3_143 rq) (zs_X3_143 σ) := by
  refine zw_M.of hZ (lv := [(0, .inl (some (143))), (1, .inl (some (34)))]) (by decide) rfl (fun _ => Nat.le_of_ble_eq_true rfl) (fun _ => rfl) (fun hc0 => ?_) (fun ad0 p e s m args below meth c C => ?_)
  · have hc1 := zw_clN hc0
    have hc2 := zw_clU (o := 143) (k := 1) (j := 144) hc1 (by omega) (by omega)
    have hc3 := zw_clN hc2
    have hc4 := zw_clU (o := 143) (k := 2) (j := 145) hc3 (by omega) (by omega)
    have hc5 := zw_clN hc4
    have hc6 := (((zc_St (l := l) (D := D) (iC := iC) hZ (o := 146) (by decide +kernel) (by decide +kernel) (by decide +kernel)) hc5).1).2
    have hc7 := zw_clU (o := 143) (k := 3) (j := 146) hc6 (by omega) (by omega)
    have hc8 := zw_clN hc7
    have hc9 := zw_clU (o := 143) (k := 4) (j := 148) hc8 (by omega) (by omega)
    have hc10 := zw_clN hc9
    have hc11 := zw_clU (o := 143) (k := 5) (j := 149) hc10 (by omega) (by omega)
    have hc12 := zw_clN hc11
    have hc13 := zw_clU (o := 143) (k := 6) (j := 150) hc12 (by omega) (by omega)
    have hc14 := zw_clN hc13
    have hc15 := (((zc_Le (l := l) (D := D) (iC := iC) hZ (o := 151)) hc14).1).2
    have hc16 := zw_clU (o := 143) (k := 7) (j := 151) hc15 (by omega) (by omega)
    have hc17 := zw_clN hc16
    have hc18 := (((zc_Le (l := l) (D := D) (iC := iC) hZ (o := 152)) hc17).1).2
    have hc19 := zw_clU (o := 143) (k := 8) (j := 152) hc18 (by omega) (by omega)
    have hc20 := zw_clU (o := 143) (k := 0) (j := 34) hc19 (by omega) (by omega)
    have hc21 := zl_cl (a := 144) (b := 153) (by omega) hc20 7
    exact ⟨by omega, hc21⟩
  · refine zw_aload C 0 dX3_init_0 rfl ?_
    refine zw_obj C (x_tb (i := 438) (by decide +kernel) rfl) (x_tb (i := 123) (by decide +kernel) rfl) (x_tb (i := 124) (by decide +kernel) rfl) ⟨Nat.le_of_ble_eq_true rfl, Nat.le_of_ble_eq_true rfl⟩ dX3_init_1 ?_
    refine zw_aload C 0 dX3_init_4 rfl ?_
    refine zw_bipush C (7 : Int32) dX3_init_5 (by decide) ?_
    refine zw_newq C (N' := 7) (x_tb (i := 439) (by decide +kernel) rfl) (by decide +kernel) (by decide +kernel) (by decide) (by decide) (Nat.le_of_ble_eq_true rfl) (by simp [zw_b] <;> omega) (by simp [zw_b] <;> omega) ⟨Nat.le_of_ble_eq_true rfl, Nat.le_of_ble_eq_true rfl⟩ dX3_init_7 ?_
    refine zw_putR C (ci := 3) (f := 1) tyX3 (by decide +kernel) (by decide) rfl x_in3 tyX3_ok nmX3 (by decide) (by decide) rfl rfl (x_tb (i := 462) (by decide +kernel) rfl) rfl rfl (tyX3_ok 1 (by decide)) (fun _ => rfl) (fun _ => rfl) (by omega) (by omega) dX3_init_10 ?_
    refine zw_aload C 0 dX3_init_13 rfl ?_
    refine zw_bipush C (7 : Int32) dX3_init_14 (by decide) ?_
    refine zw_newa C (atype := .int) (ty := .int) (t0 := 2) (N' := 7) (a0 := (7, .inl (fun _ => 0))) rfl (x_tb (i := 163) (by decide +kernel) rfl) rfl (fun ad rq hc => zw_E0i (kk := 12) hc (by decide +kernel) (by decide +kernel) (by decide)) (fun _ => rfl) (by decide) (by decide) (Nat.le_of_ble_eq_true rfl) (by simp [zw_b] <;> omega) (by simp [zw_b] <;> omega) ⟨Nat.le_of_ble_eq_true rfl, Nat.le_of_ble_eq_true rfl⟩ dX3_init_16 ?_
    refine zw_putR C (ci := 3) (f := 2) tyX3 (by decide +kernel) (by decide) rfl x_in3 tyX3_ok nmX3 (by decide) (by decide) rfl rfl (x_tb (i := 463) (by decide +kernel) rfl) rfl rfl (tyX3_ok 2 (by decide)) (fun _ => rfl) (fun _ => rfl) (by omega) (by omega) dX3_init_18 ?_
    refine zw_aload C 0 dX3_init_21 rfl ?_
    refine zw_new C (ci := 5) tyX5 (by decide +kernel) (by decide) rfl x_in5 tyX5_ok (x_tb (i := 439) (by decide +kernel) rfl) (x_tb (i := 300) (by decide +kernel) rfl) (x_tb (i := 107) (by decide +kernel) rfl) zf_5 (by simp [zw_b] <;> omega) (by simp [zw_b] <;> omega) ⟨Nat.le_of_ble_eq_true rfl, Nat.le_of_ble_eq_true rfl⟩ dX3_init_22 ?_
    refine zw_dup C dX3_init_25 ?_
    refine zw_callI C (na := 0) (As := []) (zc_St (l := l) (D := D) (iC := iC) hZ (o := 146) (by decide +kernel) (by decide +kernel) (by decide +kernel)) (host := "BabyRound") (i := 440) (by decide +kernel) rfl (x_tb (i := 302) (by decide +kernel) rfl) (x_tb (i := 107) (by decide +kernel) rfl) (x_tb (i := 303) (by decide +kernel) rfl) (by decide +kernel) rfl ⟨Nat.le_of_ble_eq_true rfl, Nat.le_of_ble_eq_true rfl⟩ ⟨rfl, rfl⟩ ⟨Nat.le_of_ble_eq_true rfl, Nat.le_of_ble_eq_true rfl⟩ rfl (fun _ => Nat.le_of_ble_eq_true rfl) (by simp [zw_b] <;> omega) (by simp [zw_b] <;> omega) dX3_init_26 ?_
    refine zw_putR C (ci := 3) (f := 3) tyX3 (by decide +kernel) (by decide) rfl x_in3 tyX3_ok nmX3 (by decide) (by decide) rfl rfl (x_tb (i := 464) (by decide +kernel) rfl) rfl rfl (tyX3_ok 3 (by decide)) (fun _ => rfl) (fun _ => rfl) (by omega) (by omega) dX3_init_29 ?_
    refine zw_aload C 0 dX3_init_32 rfl ?_
    refine zw_bipush C (6 : Int32) dX3_init_33 (by decide) ?_
    refine zw_newa C (atype := .int) (ty := .int) (t0 := 2) (N' := 6) (a0 := (6, .inl (fun _ => 0))) rfl (x_tb (i := 163) (by decide +kernel) rfl) rfl (fun ad rq hc => zw_E0i (kk := 12) hc (by decide +kernel) (by decide +kernel) (by decide)) (fun _ => rfl) (by decide) (by decide) (Nat.le_of_ble_eq_true rfl) (by simp [zw_b] <;> omega) (by simp [zw_b] <;> omega) ⟨Nat.le_of_ble_eq_true rfl, Nat.le_of_ble_eq_true rfl⟩ dX3_init_35 ?_
    refine zw_putR C (ci := 3) (f := 4) tyX3 (by decide +kernel) (by decide) rfl x_in3 tyX3_ok nmX3 (by decide) (by decide) rfl rfl (x_tb (i := 465) (by decide +kernel) rfl) rfl rfl (tyX3_ok 4 (by decide)) (fun _ => rfl) (fun _ => rfl) (by omega) (by omega) dX3_init_37 ?_
    refine zw_aload C 0 dX3_init_40 rfl ?_
    refine zw_bipush C (6 : Int32) dX3_init_41 (by decide) ?_
    refine zw_newa C (atype := .int) (ty := .int) (t0 := 2) (N' := 6) (a0 := (6, .inl (fun _ => 0))) rfl (x_tb (i := 163) (by decide +kernel) rfl) rfl (fun ad rq hc => zw_E0i (kk := 12) hc (by decide +kernel) (by decide +kernel) (by decide)) (fun _ => rfl) (by decide) (by decide) (Nat.le_of_ble_eq_true rfl) (by simp [zw_b] <;> omega) (by simp [zw_b] <;> omega) ⟨Nat.le_of_ble_eq_true rfl, Nat.le_of_ble_eq_true rfl⟩ dX3_init_43 ?_
    refine zw_putR C (ci := 3) (f := 5) tyX3 (by decide +kernel) (by decide) rfl x_in3 tyX3_ok nmX3 (by decide) (by decide) rfl rfl (x_tb (i := 466) (by decide +kernel) rfl) rfl rfl (tyX3_ok 5 (by decide)) (fun _ => rfl) (fun _ => rfl) (by omega) (by omega) dX3_init_45 ?_
    refine zw_aload C 0 dX3_init_48 rfl ?_
    refine zw_bipush C (6 : Int32) dX3_init_49 (by decide) ?_
    refine zw_newa C (atype := .int) (ty := .int) (t0 := 2) (N' := 6) (a0 := (6, .inl (fun _ => 0))) rfl (x_tb (i := 163) (by decide +kernel) rfl) rfl (fun ad rq hc => zw_E0i (kk := 12) hc (by decide +kernel) (by decide +kernel) (by decide)) (fun _ => rfl) (by decide) (by decide) (Nat.le_of_ble_eq_true rfl) (by simp [zw_b] <;> omega) (by simp [zw_b] <;> omega) ⟨Nat.le_of_ble_eq_true rfl, Nat.le_of_ble_eq_true rfl⟩ dX3_init_51 ?_
    refine zw_putR C (ci := 3) (f := 6) tyX3 (by decide +kernel) (by decide) rfl x_in3 tyX3_ok nmX3 (by decide) (by decide) rfl rfl (x_tb (i := 468) (by decide +kernel) rfl) rfl rfl (tyX3_ok 6 (by decide)) (fun _ => rfl) (fun _ => rfl) (by omega) (by omega) dX3_init_53 ?_
    refine zw_aload C 0 dX3_init_56 rfl ?_
    refine zw_new C (ci := 2) tyX2 (by decide +kernel) (by decide) rfl x_in2 tyX2_ok (x_tb (i := 441) (by decide +kernel) rfl) (x_tb (i := 442) (by decide +kernel) rfl) (x_tb (i := 110) (by decide +kernel) rfl) zf_2 (by simp [zw_b] <;> omega) (by simp [zw_b] <;> omega) ⟨Nat.le_of_ble_eq_true rfl, Nat.le_of_ble_eq_true rfl⟩ dX3_init_57 ?_
    refine zw_dup C dX3_init_60 ?_
    refine zw_callI C (na := 0) (As := []) (zc_Le (l := l) (D := D) (iC := iC) hZ (o := 151)) (host := "BabyRound") (i := 443) (by decide +kernel) rfl (x_tb (i := 444) (by decide +kernel) rfl) (x_tb (i := 110) (by decide +kernel) rfl) (x_tb (i := 445) (by decide +kernel) rfl) (by decide +kernel) rfl ⟨Nat.le_of_ble_eq_true rfl, Nat.le_of_ble_eq_true rfl⟩ ⟨rfl, rfl⟩ ⟨Nat.le_of_ble_eq_true rfl, Nat.le_of_ble_eq_true rfl⟩ rfl (fun _ => Nat.le_of_ble_eq_true rfl) (by simp [zw_b] <;> omega) (by simp [zw_b] <;> omega) dX3_init_61 ?_
    refine zw_putR C (ci := 3) (f := 7) tyX3 (by decide +kernel) (by decide) rfl x_in3 tyX3_ok nmX3 (by decide) (by decide) rfl rfl (x_tb (i := 470) (by decide +kernel) rfl) rfl rfl (tyX3_ok 7 (by decide)) (fun _ => rfl) (fun _ => rfl) (by omega) (by omega) dX3_init_64 ?_
    refine zw_aload C 0 dX3_init_67 rfl ?_
    refine zw_new C (ci := 2) tyX2 (by decide +kernel) (by decide) rfl x_in2 tyX2_ok (x_tb (i := 441) (by decide +kernel) rfl) (x_tb (i := 442) (by decide +kernel) rfl) (x_tb (i := 110) (by decide +kernel) rfl) zf_2 (by simp [zw_b] <;> omega) (by simp [zw_b] <;> omega) ⟨Nat.le_of_ble_eq_true rfl, Nat.le_of_ble_eq_true rfl⟩ dX3_init_68 ?_
    refine zw_dup C dX3_init_71 ?_
    refine zw_callI C (na := 0) (As := []) (zc_Le (l := l) (D := D) (iC := iC) hZ (o := 152)) (host := "BabyRound") (i := 443) (by decide +kernel) rfl (x_tb (i := 444) (by decide +kernel) rfl) (x_tb (i := 110) (by decide +kernel) rfl) (x_tb (i := 445) (by decide +kernel) rfl) (by decide +kernel) rfl ⟨Nat.le_of_ble_eq_true rfl, Nat.le_of_ble_eq_true rfl⟩ ⟨rfl, rfl⟩ ⟨Nat.le_of_ble_eq_true rfl, Nat.le_of_ble_eq_true rfl⟩ rfl (fun _ => Nat.le_of_ble_eq_true rfl) (by simp [zw_b] <;> omega) (by simp [zw_b] <;> omega) dX3_init_72 ?_
    refine zw_putR C (ci := 3) (f := 8) tyX3 (by decide +kernel) (by decide) rfl x_in3 tyX3_ok nmX3 (by decide) (by decide) rfl rfl (x_tb (i := 472) (by decide +kernel) rfl) rfl rfl (tyX3_ok 8 (by decide)) (fun _ => rfl) (fun _ => rfl) (by omega) (by omega) dX3_init_75 ?_
    refine zw_aload C 0 dX3_init_78 rfl ?_
    refine zw_aload C 1 dX3_init_79 rfl ?_
    refine zw_putR C (ci := 3) (f := 0) tyX3 (by decide +kernel) (by decide) rfl x_in3 tyX3_ok nmX3 (by decide) (by decide) rfl rfl (x_tb (i := 461) (by decide +kernel) rfl) rfl rfl (tyX3_ok 0 (by decide)) (fun _ => rfl) (fun _ => rfl) (by omega) (by omega) dX3_init_80 ?_
    refine zw_iconst C (nI 0) dX3_init_83 (by decide) ?_
    refine zw_istore C [(2, .inr (.int (nI 0))), (0, .inl (some 143)), (1, .inl (some 34))] dX3_init_84 rfl (by decide) (fun ad q hq => by simp only [List.mem_cons, List.not_mem_nil, or_false] at hq; rcases hq with rfl | rfl <;> rfl) rfl ?_
    refine zl_X3 (rq := (zw_u (zw_u (zw_u (zw_u (zw_u (zw_u (zw_u (zw_u (zw_u (zw_u rq 143 1 144) 143 2 145) 146 20 147) 143 3 146) 143 4 148) 143 5 149) 143 6 150) 143 7 151) 143 8 152) 143 0 34)) (σ := (zs_St σ 146)) (mc := 9) (ms := 101) hZ C ⟨Nat.le_of_ble_eq_true rfl, Nat.le_of_ble_eq_true rfl⟩ ⟨Nat.le_of_ble_eq_true rfl, Nat.le_of_ble_eq_true rfl⟩ (by simp [zw_u]) ?_ 7 0 rfl
    exact zw_vret C dX3_init_113
set_option maxHeartbeats 4000000 in
set_option maxRecDepth 100000 in
theorem zl_X8 {p : Program} {e : Env} {R : Room} {s : State} {m : MethodId} {args : Array Value} {below : List Frame} {meth : Method} {c : Code} {Q : State → Prop} {n0 : Nat} {ad0 : Nat → Nat} {mc ms : Nat} (hZ : zw_OK b0 Z) (C : zw_C p s m args meth c cX8_init 2 yX8_init.cls D iC b0 Z) (hR : 2 ≤ R.frames ∧ 32 ≤ R.locals) (hcs : mc + 6 ≤ R.cells ∧ ms + 189 ≤ R.slots) (hra : rq 0 6 = some 141) (kx : zw_W p l e R s m args below meth c Q D iC TX b0 n0 ad0 2 170 [(1, .inr (.int (nI 3))), (0, .inl (some 0))] [] (177) (zl_rq 141 171 rq 3) (zl_s 171 σ 3) (mc + 6) (ms + 189)) : ∀ d i, i + d = 3 → zw_W p l e R s m args below meth c Q D iC TX b0 n0 ad0 2 142 [(1, .inr (.int (nI i))), (0, .inl (some 0))] [] (171 + 2 * i) (zl_rq 141 171 rq i) (zl_s 171 σ i) (mc + 2 * i) (ms + 63 * i) := by
  have hra' : ∀ i, zl_rq 141 171 rq i 0 6 = some 141 := fun i => by rw [zl_o _ _ _ (by decide) (by decide)]; exact hra
  intro d
  induction d with
  | zero =>
    intro i hi
    have : i = 3 := by omega
    subst this
    refine zw_iload C 0 dX8_init_142 rfl ?_
    refine zw_aload C 1 dX8_init_143 rfl ?_
    refine zw_getR C (ci := 8) (f := 6) (j := 141) (by decide +kernel) (by decide) rfl x_in8 (by decide) (by decide) rfl rfl (x_tb (i := 549) (by decide +kernel) rfl) (by omega) (hra' _) dX8_init_144 ?_
    refine zw_alen C (nI 3) (by decide +kernel) (by decide +kernel) (by omega) dX8_init_147 ?_
    exact zw_icmp_ge C 170 dX8_init_148 rfl (fun _ => kx) (fun q => absurd (nI_le (Nat.le_refl _) (by decide)) q)
  | succ d ih =>
    intro i hi
    refine zw_iload C 0 dX8_init_142 rfl ?_
    refine zw_aload C 1 dX8_init_143 rfl ?_
    refine zw_getR C (ci := 8) (f := 6) (j := 141) (by decide +kernel) (by decide) rfl x_in8 (by decide) (by decide) rfl rfl (x_tb (i := 549) (by decide +kernel) rfl) (by omega) (hra' _) dX8_init_144 ?_
    refine zw_alen C (nI 3) (by decide +kernel) (by decide +kernel) (by omega) dX8_init_147 ?_
    refine zw_icmp_ge C 170 dX8_init_148 rfl (fun q => absurd q (nI_ge (by omega) (by decide))) (fun _ => ?_)
    refine zw_aload C 1 dX8_init_151 rfl ?_
    refine zw_getR C (ci := 8) (f := 6) (j := 141) (by decide +kernel) (by decide) rfl x_in8 (by decide) (by decide) rfl rfl (x_tb (i := 549) (by decide +kernel) rfl) (by omega) (hra' _) dX8_init_152 ?_
    refine zw_iload C 0 dX8_init_155 rfl ?_
    refine zw_new C (ci := 5) tyX5 (zk_141 i (by omega)).1 (by decide) rfl x_in5 tyX5_ok (x_tb (i := 299) (by decide +kernel) rfl) (x_tb (i := 300) (by decide +kernel) rfl) (x_tb (i := 107) (by decide +kernel) rfl) zf_5 (by simp [zw_b] <;> omega) (by simp [zw_b] <;> omega) ⟨by omega, by omega⟩ dX8_init_156 ?_
    refine zw_dup C dX8_init_159 ?_
    refine zw_callI C (na := 0) (As := []) (zc_St (l := l) (D := D) (iC := iC) hZ (o := 171 + 2 * i) (zk_141 i (by omega)).1 (zk_141 i (by omega)).2.1 (zk_141 i (by omega)).2.2) (host := "BabyRound") (i := 301) (by decide +kernel) rfl (x_tb (i := 302) (by decide +kernel) rfl) (x_tb (i := 107) (by decide +kernel) rfl) (x_tb (i := 303) (by decide +kernel) rfl) (by decide +kernel) rfl ⟨hR.1, hR.2⟩ ⟨rfl, rfl⟩ ⟨by omega, by omega⟩ rfl (fun _ => Nat.le_of_ble_eq_true rfl) (by simp [zw_b] <;> omega) (by simp [zw_b] <;> omega) dX8_init_160 ?_
    refine zw_astq C (i := i) (by decide +kernel) (zk_141 i (by omega)).1 (by rw [show x_ln TX 141 = 3 by decide +kernel]; omega) (by decide +kernel) (by omega) (by omega) dX8_init_163 ?_
    refine zw_iinc C 0 (nI (i + 1)) [(1, .inr (.int (nI (i + 1)))), (0, .inl (some 0))] dX8_init_164 rfl (nI_1 i) (by decide) (fun ad q hq => by simp only [List.mem_cons, List.not_mem_nil, or_false] at hq; rcases hq with rfl | rfl <;> rfl) rfl ?_
    refine zw_goto C 142 dX8_init_167 rfl ?_
    have g := ih (i + 1) (by omega)
    rw [show 171 + 2 * (i + 1) = 171 + 2 * i + 1 + 1 by omega, show mc + 2 * (i + 1) = mc + 2 * i + 1 + 1 by omega, show ms + 63 * (i + 1) = ms + 63 * i + 21 + 42 by omega] at g
    exact g
end ZI
