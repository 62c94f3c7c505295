/-! THE LAW, from its entry -/
set_option maxRecDepth 100000 in
theorem zl_code9t : Cond.code yX9_init cX9_init 1 none ∈ tables_1 := List.mem_append_right _ (List.mem_append_right _ (List.mem_append_right _ (List.mem_append_right _ (List.mem_append_left _ (List.mem_of_getElem? (i := 123) rfl)))))
theorem zl_code9 : Cond.code yX9_init cX9_init 1 none ∈ x_tbl := List.mem_filter.mpr ⟨List.mem_append_right _ zl_code9t, rfl⟩
section WM
variable {p : Program} {l : Launch} {e : Env} {s : State} {m : MethodId} {below : List Frame} {meth : Method} {c : Code} {b L : Nat} {xs : Nat → Int32} {D : va_G} {iC : Nat → ClassId}
theorem wl_make {T : x_Tb} {Q : State → Prop} (C : lw_At p s m meth c b L xs) (hK : va_K D vwCl (zw_ty iC) s) (hZs : zl_Z s.heap.size s) {ci Nn i1 i2 nL2 mc ms mc0 ms0 pc : Nat} {Cn : String} {Tt : u_T} {ty0 : Nat → FieldType} {y : MethodName} {cb : ByteArray} {rm2 : Room} {σ : x_Hp} {H : Heap} {ls : Array Slot} (hS : va_S (zw_A s.heap.size) s.heap H []) (hM : zx_M l D iC T H.size (zl_Z s.heap.size) y cb nL2 rm2 mc ms σ) (hk : x_kd T 0 = ci) (h10 : ci < 10) (hc : vwCl[ci]? = some (Cn, Tt, Nn)) (hin : ∀ w ∈ u_ws Cn Tt Nn, w ∈ x_tbl) (hty : ∀ k, k < Nn → parseFieldDescriptor (Tt k).2.2.1 = some (ty0 k)) (hf0 : ∀ j, j < Nn → defaultValue (ty0 j) = vp_V (x_fs ci (fun _ => .null) (fun _ => 0)) j) (hcl2 : Cond.classLink R_law i1 Cn ∈ x_tbl) (hinst : Cond.instantiable Cn Nn ∈ x_tbl) (hini : Cond.initialized Cn ∈ x_tbl) (hl : Cond.methodLink R_law i2 y ∈ x_tbl) (hy : y.name = "<init>") (hi : Cond.instanceMethod y ∈ x_tbl) (hini2 : Cond.initialized y.cls ∈ x_tbl) (hcode : Cond.code y cb nL2 none ∈ x_tbl) (hd : y.cls ≠ "java/lang/invoke/MethodHandle" ∧ y.cls ≠ "java/lang/invoke/VarHandle" ∧ (parseMethodDescriptor y.desc).map (fun d => d.parameters.length) = some 0) (hR : rm2.frames + 1 ≤ room_1.frames ∧ 8 + (nL2 + 11) + rm2.locals ≤ room_1.locals) (hrm : rm2.cells = mc ∧ rm2.slots = ms) (hcs : mc0 + 1 + mc ≤ 600000 ∧ ms0 + Nn + ms ≤ 7302250) (hls : ls.size = 4)
    (d0 : decode code pc = .ok (.new i1, 3)) (d1 : decode code (pc + 3) = .ok (.dup, 1)) (d2 : decode code (pc + 3 + 1) = .ok (.invokespecial i2, 3))
    (kk : ∀ (ad : Nat → Nat) (H1 : Heap) (locs1 : List Loc), x_OK T (D, iC, ad, zl_Z s.heap.size) → (∀ o, o < T.1 → H.size ≤ ad o) → x_PW T (D, iC, ad, zl_Z s.heap.size) σ H1 → va_S (zw_A H.size) H H1 locs1 → W p l e room_1 s m #[Value.ref b] below meth c H1 locs1 (mc0 + 1 + mc) (ms0 + Nn + ms) Q (F0 m (pc + 3 + 1 + 3) ls [.ref (ad 0)])) : W p l e room_1 s m #[Value.ref b] below meth c H [] mc0 ms0 Q (F0 m pc ls []) := by
  obtain ⟨hx, hb, hr, hml, hown, hts, hX, hbl, hlocks, hgv⟩ := C
  have hts : ∀ w ∈ x_tbl, w.before #[Value.ref b] s = true := fun w hw => hts w (List.mem_filter.mp hw).1
  have hZ : zw_OK H.size (zl_Z s.heap.size) := zl_ok hS.1
  refine va_new (A := zw_A H.size) (H0 := H) (ws := []) (ci := ci) (fs := x_fs ci (fun _ => .null) (fun _ => 0)) hx hb hts hin ty0 hty hown (hts _ hcl2) (hts _ hinst) (hts _ hini) hK (fun k q h => by simp at h) ⟨fun i j p q h => by simp at h, fun k q h => by simp at h⟩ va_S.rf (fun q h => h) hc hf0 (by show mc0 + 1 ≤ 600000; omega) (by show ms0 + Nn ≤ 7302250; omega) d0 (fun q H1 hP hD hS1 => ?_)
  refine lv_dup hx hb d1 rfl ?_
  have hE : zw_ws T iC (fun _ => q) zq_0 zs_0 1 = [(q, .inr (ci, x_fs ci (fun _ => .null) (fun _ => 0)))] := by
    show [(q, zw_E T iC (fun _ => q) zq_0 zs_0 0)] = _
    rw [zw_E, hk, if_pos h10]
    rfl
  have hP : va_P D vwCl (zw_ws T iC (fun _ => q) zq_0 zs_0 1) H1 := by rw [hE]; exact hP
  have hD : va_D (zw_A H.size) (zw_ws T iC (fun _ => q) zq_0 zs_0 1) := by rw [hE]; exact hD
  have hpre : ∀ U : State, U.heap = H1 → s.WarmedH U.vm → va_Pc [.ref q] (zw_Pr D iC T H.size (zl_Z s.heap.size) 1 (fun _ => q) zq_0 zs_0) #[Value.ref q] U := by
    intro U hU hW
    refine ⟨rfl, by rw [hU]; exact hP, hD, va_K.moved hW.alike hK, ?_, by rw [hU]; exact hS1.1⟩
    refine (zl_ok (Nat.le_refl _)).1 s U hZs hW (by rw [hU]; exact Nat.le_trans hS.1 hS1.1) (fun a h1 h2 => ?_)
    have h3 : a < H.size := Nat.lt_of_lt_of_le h1 hS.1
    rw [hU, hS1.2.1 a h3 (Nat.not_le.mpr h3)]
    exact hS.2.1 a h1 (Nat.not_le.mpr h2)
  refine va_callv (va_runI (As := []) (rest := [.ref q]) ⟨hx, hb, hml, hown, hts⟩ (hM (fun _ => q)) ⟨callB_of 0 hts (x_goodIn hcode) rfl hrm.1 hrm.2 (hts _ hini2) (hts _ hl) hd hR, hy, hts _ hi⟩ ⟨zw_blind hZ _ _, hpre⟩ rfl rfl hls rfl (lv_room (Nat.le_of_ble_eq_true rfl)) d2 hcs) hS1 (fun q _ h => h) (fun q h => h) (fun ad t H2 locs1 ht hvm hpost hB hsz hk1 hS2 => ?_)
  obtain ⟨h0, hG, hb0⟩ := hpost
  have h0 : ad 0 = q := h0
  have g := kk ad H2 locs1 hG hb0 (by rw [← ht]; exact hB) hS2
  rw [h0] at g
  exact g
theorem wl_loop {ad1 ad2 : Nat → Nat} {mc ms : Nat} (C : wl_C p s m meth c b L xs D iC ad1 ad2) (hcs : mc ≤ 600000 ∧ ms ≤ 7302250) : ∀ (d j K : Nat) (σ μ : x_Hp), L < 6 * (j + d) + 6 → 6 * j ≤ L → K ≤ j → r_full K σ μ → wl_W p l e s m below meth c b D iC ad1 ad2 mc ms (6 * j) 18 [] σ μ := by
  have hL := C.2.1
  intro d
  induction d with
  | zero =>
    intro j K σ μ h1 h2 h3 h
    exact wl_test C h2 (fun q => by omega) dL_law_18 dL_law_19 dL_law_20 dL_law_21 dL_law_23 1379 dL_law_24 rfl (fun _ => wl_end C hcs dL_law_1379 dL_law_1380) (fun q => absurd q (by omega))
  | succ d ih =>
    intro j K σ μ h1 h2 h3 h
    refine wl_test C h2 (fun q => by omega) dL_law_18 dL_law_19 dL_law_20 dL_law_21 dL_law_23 1379 dL_law_24 rfl (fun _ => wl_end C hcs dL_law_1379 dL_law_1380) (fun q => ?_)
    refine wl_op C dL_law_27 dL_law_28 dL_law_29 (by omega) ?_
    refine wl_mask C dL_law_30 (by decide) dL_law_32 ?_
    refine wl_switch C hcs (K := K) (by omega) h (by omega) (fun K2 τ ν hK2 hR => ?_) _
    refine wl_inc C 18 dL_law_1373 dL_law_1376 rfl ?_
    have g := ih (j + 1) K2 τ ν (by omega) (by omega) (by omega) hR
    rw [show 6 * (j + 1) = 6 * j + 6 by omega] at g
    exact g
end WM
set_option maxHeartbeats 4000000 in
set_option maxRecDepth 100000 in
theorem whole_start {p : Program} {e : Env} {s : State} {m : MethodId} {below : List Frame} {meth : Method} {c : Code} (l : Launch) (hflags : l.flags = flags0) {b L : Nat} {xs : Nat → Int32} (hL : L ≤ 3072) (C0 : lw_At p s m meth c b L xs) : W p l e room_1 s m #[Value.ref b] below meth c s.heap [] 0 0 (lw_Z below #[Value.ref b] s) (entryFrame m ([Value.ref b] : List Value).toArray 4) := by
  obtain ⟨hx, hb, hr, hml, hown, hts, hX, hbl, hlocks, hgv⟩ := id C0
  have hZs := zl_at hts hgv
  obtain ⟨D, iC, hK⟩ := zl_K (fun w hw => hts w (List.mem_filter.mp hw).1) hZs.2.2
  obtain ⟨τ1, τ2, μ1, μ2, μ3, s1, s2, s3, s4, s5, hfull⟩ := z_start
  have hl := lv_entry ([.ref b]) (n := 4) (Nat.le_of_ble_eq_true rfl)
  rw [lg_entry_eq]
  generalize (lg_sl ([.ref b]) ++ List.replicate (4 - (lg_sl ([.ref b])).length) Slot.unset).toArray = ls at hl ⊢
  have hl : lv_has ls 4 [(0, .ref b)] := hl
  refine wl_make (T := TX) C0 hK hZs va_S.rf (zx_X (zl_ok (Nat.le_refl _)) s1 s2) (ty0 := tyX8) (by decide +kernel) (by decide) rfl x_in8 tyX8_ok zf_8 (x_tb (i := 117) (by decide +kernel) rfl) (x_tb (i := 118) (by decide +kernel) rfl) (x_tb (i := 102) (by decide +kernel) rfl) (x_tb (i := 119) (by decide +kernel) rfl) rfl (x_tb (i := 120) (by decide +kernel) rfl) (x_tb (i := 102) (by decide +kernel) rfl) (x_tb (i := 121) (by decide +kernel) rfl) (by decide +kernel) ⟨Nat.le_of_ble_eq_true rfl, Nat.le_of_ble_eq_true rfl⟩ ⟨rfl, rfl⟩ ⟨Nat.le_of_ble_eq_true rfl, Nat.le_of_ble_eq_true rfl⟩ hl.1 dL_law_0 dL_law_3 dL_law_4 (fun ad1 H1 locs1 hG1 hb1 hP1 hS1 => ?_)
  refine lv_astore_n (lv' := [(1, .ref (ad1 0)), (0, .ref b)]) hx hb dL_law_7 rfl hl (by decide) rfl (fun ls hl => ?_)
  refine va_forget (fun q hq => hS1.2.2 q hq) ?_
  have hS1 : va_S (zw_A s.heap.size) s.heap H1 [] := ⟨hS1.1, hS1.2.1, fun l h => by cases h⟩
  refine wl_make (T := TM) C0 hK hZs hS1 (zx_Mo (zl_ok hS1.1) s3 s4 s5) (ty0 := tyX9) (by decide +kernel) (by decide) rfl x_in9 tyX9_ok zf_9 (x_tb (i := 1180) (by decide +kernel) rfl) (x_tb (i := 1181) (by decide +kernel) rfl) (x_tb (i := 111) (by decide +kernel) rfl) (x_tb (i := 1182) (by decide +kernel) rfl) rfl (x_tb (i := 1183) (by decide +kernel) rfl) (x_tb (i := 111) (by decide +kernel) rfl) zl_code9 (by decide +kernel) ⟨Nat.le_of_ble_eq_true rfl, Nat.le_of_ble_eq_true rfl⟩ ⟨rfl, rfl⟩ ⟨Nat.le_of_ble_eq_true rfl, Nat.le_of_ble_eq_true rfl⟩ hl.1 dL_law_8 dL_law_11 dL_law_12 (fun ad2 H2 locs2 hG2 hb2 hP2 hS2 => ?_)
  refine lv_astore_n (lv' := [(2, .ref (ad2 0)), (1, .ref (ad1 0)), (0, .ref b)]) hx hb dL_law_15 rfl hl (by decide) rfl (fun ls hl => ?_)
  refine lv_iconst (v := nI (6 * 0)) hx hb dL_law_16 (by decide) ?_
  refine lv_istore_n (lv' := [(3, .int (nI (6 * 0))), (2, .ref (ad2 0)), (1, .ref (ad1 0)), (0, .ref b)]) hx hb dL_law_17 rfl hl (by decide) rfl (fun ls hl => ?_)
  have lt1 : ∀ o, o < TX.1 → ad1 o < H1.size := fun o ho => va_at.lt (hP1 o _ (x_ws_at TX _ τ2 ho))
  have hA1 : ∀ q, x_A TX (D, iC, ad1, zl_Z s.heap.size) q → s.heap.size ≤ q := fun q ⟨o, ho, h⟩ => by rw [h]; exact hb1 o ho
  have hA2 : ∀ q, x_A TM (D, iC, ad2, zl_Z s.heap.size) q → s.heap.size ≤ q := fun q ⟨o, ho, h⟩ => by rw [h]; exact Nat.le_trans hS1.1 (hb2 o ho)
  have hdis : ∀ i j, i < TX.1 → j < TM.1 → ad1 i ≠ ad2 j := fun i j hi hj h => by
    have h1 := lt1 i hi
    have h2 := hb2 j hj
    omega
  have hP1' : x_PW TX (D, iC, ad1, zl_Z s.heap.size) τ2 H2 := va_P.kept hP1 (fun k q hq => by
    have h1 := va_at.lt (hP1 k q hq)
    exact hS2.2.1 q.1 h1 (Nat.not_le.mpr h1))
  have hS : va_S (zw_A s.heap.size) s.heap H2 locs2 := ⟨Nat.le_trans hS1.1 hS2.1, fun q h1 h2 => by
    have h3 : q < H1.size := Nat.lt_of_lt_of_le h1 hS1.1
    rw [hS2.2.1 q h3 (Nat.not_le.mpr h3)]
    exact hS1.2.1 q h1 h2, fun q hq => Nat.le_trans hS1.1 (hS2.2.2 q hq)⟩
  exact wl_loop (ad1 := ad1) (ad2 := ad2) ⟨C0, hL, hK, hG1, hG2, hA1, hA2, hdis, hZs⟩ ⟨Nat.le_of_ble_eq_true rfl, Nat.le_of_ble_eq_true rfl⟩ (L / 6 + 1) 0 0 τ2 μ3 (by omega) (by omega) (Nat.le_refl 0) hfull H2 locs2 ls hl hP1' hP2 hS
