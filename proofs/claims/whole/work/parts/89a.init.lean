/-! THE CLASS'S CONSTRUCTORS -/
theorem zw_E0i {T : x_Tb} {iC : Nat → ClassId} {ad : Nat → Nat} {rq : zw_R} {σ : x_Hp} {n kk N : Nat} (hc : zw_cl n rq σ) (hk : x_kd T n = kk) (hl : x_ln T n = N) (h : 10 ≤ kk ∧ kk ≠ 13 ∧ kk ≠ 15) : zw_E T iC ad rq σ n = .inl (iC (x_ai kk), N, .inl (fun _ => 0)) := by
  have b : σ.1 n = fun _ => 0 := funext fun k => (hc.2 n k (Nat.le_refl n)).2.1
  rw [zw_E, hk, hl, if_neg (by omega), if_neg h.2.1, if_neg h.2.2, b]
theorem zw_E0l {T : x_Tb} {iC : Nat → ClassId} {ad : Nat → Nat} {rq : zw_R} {σ : x_Hp} {n N : Nat} (hc : zw_cl n rq σ) (hk : x_kd T n = 13) (hl : x_ln T n = N) : zw_E T iC ad rq σ n = .inl (iC 3, N, .inr (.inl (fun _ => 0))) := by
  have b : σ.2 n = fun _ => 0 := funext fun k => (hc.2 n k (Nat.le_refl n)).2.2
  rw [zw_E, hk, hl, if_neg (by decide), if_pos rfl, b]
def zs_St (σ : x_Hp) (o : Nat) : x_Hp := x_pI (x_pI (x_pI σ o 9 (-2)) o 10 (-2)) o 11 (-2)
def zl_rq (a b : Nat) (rq : zw_R) : Nat → zw_R
  | 0 => rq
  | i + 1 => zw_u (zw_u (zl_rq a b rq i) (b + 2 * i) 20 (b + 2 * i + 1)) a i (b + 2 * i)
def zl_s (b : Nat) (σ : x_Hp) : Nat → x_Hp
  | 0 => σ
  | i + 1 => zs_St (zl_s b σ i) (b + 2 * i)
theorem zl_o {a b : Nat} {rq : zw_R} (i : Nat) (o k : Nat) (h1 : o ≠ a) (h2 : o < b) : zl_rq a b rq i o k = rq o k := by
  induction i with
  | zero => rfl
  | succ i ih => rw [zl_rq, zw_u, if_neg (fun q => h1 q.1), zw_u, if_neg (by omega), ih]
theorem zl_cl {a b : Nat} {rq : zw_R} {σ : x_Hp} (ha : a < b) (h : zw_cl b rq σ) (i : Nat) : zw_cl (b + 2 * i) (zl_rq a b rq i) (zl_s b σ i) := by
  induction i with
  | zero => exact h
  | succ i ih =>
    have h1 := zw_clN (zw_clN ih)
    have h2 := zw_clI (o := b + 2 * i) (k := 11) (x := -2) (zw_clI (o := b + 2 * i) (k := 10) (x := -2) (zw_clI (o := b + 2 * i) (k := 9) (x := -2) h1 (by omega)) (by omega)) (by omega)
    exact zw_clU (o := a) (k := i) (j := b + 2 * i) (zw_clU (o := b + 2 * i) (k := 20) (j := b + 2 * i + 1) h2 (by omega) (by omega)) (by omega) (by omega)
theorem zk_40 : ∀ i, i < 50 → x_kd TX (41 + 2 * i) = 5 ∧ x_kd TX (41 + 2 * i + 1) = 12 ∧ x_ln TX (41 + 2 * i + 1) = 42 := by decide +kernel
theorem zk_144 : ∀ i, i < 7 → x_kd TX (153 + 2 * i) = 5 ∧ x_kd TX (153 + 2 * i + 1) = 12 ∧ x_ln TX (153 + 2 * i + 1) = 42 := by decide +kernel
theorem zk_141 : ∀ i, i < 3 → x_kd TX (171 + 2 * i) = 5 ∧ x_kd TX (171 + 2 * i + 1) = 12 ∧ x_ln TX (171 + 2 * i + 1) = 42 := by decide +kernel
theorem zf_of {ci N : Nat} {ty : Nat → FieldType} (h : ∀ j, j < N → j < x_nf ci ∧ defaultValue (ty j) = if x_isR ci j = true then .null else .int 0) : ∀ j, j < N → defaultValue (ty j) = vp_V (x_fs ci (fun _ => .null) (fun _ => 0)) j := by
  intro j hj
  obtain ⟨h1, h2⟩ := h j hj
  rw [h2, vp_V, List.getD_eq_getElem?_getD, x_fs_get _ _ h1]
  rfl
theorem zf_0 : ∀ j, j < 1 → defaultValue (tyX0 j) = vp_V (x_fs 0 (fun _ => .null) (fun _ => 0)) j := zf_of (by decide +kernel)
theorem zf_1 : ∀ j, j < 8 → defaultValue (tyX1 j) = vp_V (x_fs 1 (fun _ => .null) (fun _ => 0)) j := zf_of (by decide +kernel)
theorem zf_2 : ∀ j, j < 3 → defaultValue (tyX2 j) = vp_V (x_fs 2 (fun _ => .null) (fun _ => 0)) j := zf_of (by decide +kernel)
theorem zf_3 : ∀ j, j < 12 → defaultValue (tyX3 j) = vp_V (x_fs 3 (fun _ => .null) (fun _ => 0)) j := zf_of (by decide +kernel)
theorem zf_4 : ∀ j, j < 13 → defaultValue (tyX4 j) = vp_V (x_fs 4 (fun _ => .null) (fun _ => 0)) j := zf_of (by decide +kernel)
theorem zf_5 : ∀ j, j < 21 → defaultValue (tyX5 j) = vp_V (x_fs 5 (fun _ => .null) (fun _ => 0)) j := zf_of (by decide +kernel)
theorem zf_6 : ∀ j, j < 15 → defaultValue (tyX6 j) = vp_V (x_fs 6 (fun _ => .null) (fun _ => 0)) j := zf_of (by decide +kernel)
theorem zf_7 : ∀ j, j < 4 → defaultValue (tyX7 j) = vp_V (x_fs 7 (fun _ => .null) (fun _ => 0)) j := zf_of (by decide +kernel)
theorem zf_8 : ∀ j, j < 14 → defaultValue (tyX8 j) = vp_V (x_fs 8 (fun _ => .null) (fun _ => 0)) j := zf_of (by decide +kernel)
theorem zf_9 : ∀ j, j < 73 → defaultValue (tyX9 j) = vp_V (x_fs 9 (fun _ => .null) (fun _ => 0)) j := zf_of (by decide +kernel)
section ZI
variable {l : Launch} {D : va_G} {iC : Nat → ClassId} {b0 : Nat} {Z : State → Prop} {rq : zw_R} {σ : x_Hp}
abbrev rm_zSt : Room := { frames := 1, cells := 1, slots := 42, locals := 12 }
set_option maxHeartbeats 4000000 in
set_option maxRecDepth 100000 in
theorem zc_St (hZ : zw_OK b0 Z) {o : Nat} (hk : x_kd TX o = 5) (hk2 : x_kd TX (o + 1) = 12) (hl : x_ln TX (o + 1) = 42) : zw_M l D iC TX b0 Z yX5_init cX5_init 1 rm_zSt 1 42 [.inl (some o)] (o + 1) rq σ (o + 1 + 1) (zw_u rq o 20 (o + 1)) (zs_St σ o) := by
  refine zw_M.of hZ (lv := [(0, .inl (some o))]) (by decide) rfl (fun _ => Nat.le_of_ble_eq_true rfl) (fun _ => rfl) (fun hc0 => ?_) (fun ad0 p e s m args below meth c C => ?_)
  · have hc1 := zw_clI (o := o) (k := 9) (x := (-2)) hc0 (by omega)
    have hc2 := zw_clI (o := o) (k := 10) (x := (-2)) hc1 (by omega)
    have hc3 := zw_clI (o := o) (k := 11) (x := (-2)) hc2 (by omega)
    have hc4 := zw_clN hc3
    have hc5 := zw_clU (o := o) (k := 20) (j := o + 1) hc4 (by omega) (by omega)
    exact ⟨by omega, hc5⟩
  · refine zw_aload C 0 dX5_init_0 rfl ?_
    refine zw_obj C (x_tb (i := 304) (by decide +kernel) rfl) (x_tb (i := 123) (by decide +kernel) rfl) (x_tb (i := 124) (by decide +kernel) rfl) ⟨Nat.le_of_ble_eq_true rfl, Nat.le_of_ble_eq_true rfl⟩ dX5_init_1 ?_
    refine zw_aload C 0 dX5_init_4 rfl ?_
    refine zw_bipush C (-2 : Int32) dX5_init_5 (by decide) ?_
    refine zw_putI C (ci := 5) (f := 9) tyX5 hk (by decide) rfl x_in5 tyX5_ok nmX5 (by decide) (by decide) rfl rfl (x_tb (i := 330) (by decide +kernel) rfl) rfl (tyX5_ok 9 (by decide)) rfl rfl (by omega) dX5_init_7 ?_
    refine zw_aload C 0 dX5_init_10 rfl ?_
    refine zw_bipush C (-2 : Int32) dX5_init_11 (by decide) ?_
    refine zw_putI C (ci := 5) (f := 10) tyX5 hk (by decide) rfl x_in5 tyX5_ok nmX5 (by decide) (by decide) rfl rfl (x_tb (i := 333) (by decide +kernel) rfl) rfl (tyX5_ok 10 (by decide)) rfl rfl (by omega) dX5_init_13 ?_
    refine zw_aload C 0 dX5_init_16 rfl ?_
    refine zw_bipush C (-2 : Int32) dX5_init_17 (by decide) ?_
    refine zw_putI C (ci := 5) (f := 11) tyX5 hk (by decide) rfl x_in5 tyX5_ok nmX5 (by decide) (by decide) rfl rfl (x_tb (i := 336) (by decide +kernel) rfl) rfl (tyX5_ok 11 (by decide)) rfl rfl (by omega) dX5_init_19 ?_
    refine zw_aload C 0 dX5_init_22 rfl ?_
    refine zw_bipush C (42 : Int32) dX5_init_23 (by decide) ?_
    refine zw_newa C (atype := .int) (ty := .int) (t0 := 2) (N' := 42) (a0 := (42, .inl (fun _ => 0))) rfl (x_tb (i := 163) (by decide +kernel) rfl) rfl (fun ad rq hc => zw_E0i (kk := 12) hc hk2 hl (by decide)) (fun _ => rfl) (by decide) (by decide) (Nat.le_of_ble_eq_true rfl) (by simp [zw_b] <;> omega) (by simp [zw_b] <;> omega) ⟨Nat.le_of_ble_eq_true rfl, Nat.le_of_ble_eq_true rfl⟩ dX5_init_25 ?_
    refine zw_putR C (ci := 5) (f := 20) tyX5 hk (by decide) rfl x_in5 tyX5_ok nmX5 (by decide) (by decide) rfl rfl (x_tb (i := 364) (by decide +kernel) rfl) rfl rfl (tyX5_ok 20 (by decide)) (fun _ => rfl) (fun _ => rfl) (by omega) (by omega) dX5_init_27 ?_
    exact zw_vret C dX5_init_30
abbrev rm_zLe : Room := { frames := 1, cells := 0, slots := 0, locals := 12 }
set_option maxHeartbeats 4000000 in
set_option maxRecDepth 100000 in
theorem zc_Le (hZ : zw_OK b0 Z) {o : Nat} : zw_M l D iC TX b0 Z yX2_init cX2_init 1 rm_zLe 0 0 [.inl (some o)] (o + 1) rq σ (o + 1) rq σ := by
  refine zw_M.of hZ (lv := [(0, .inl (some o))]) (by decide) rfl (fun _ => Nat.le_of_ble_eq_true rfl) (fun _ => rfl) (fun hc0 => ⟨Nat.le_refl _, hc0⟩) (fun ad0 p e s m args below meth c C => ?_)
  · refine zw_aload C 0 dX2_init_0 rfl ?_
    refine zw_obj C (x_tb (i := 446) (by decide +kernel) rfl) (x_tb (i := 123) (by decide +kernel) rfl) (x_tb (i := 124) (by decide +kernel) rfl) ⟨Nat.le_of_ble_eq_true rfl, Nat.le_of_ble_eq_true rfl⟩ dX2_init_1 ?_
    exact zw_vret C dX2_init_4
end ZI
