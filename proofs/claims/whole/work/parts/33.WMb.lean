section WW
variable {p : Program} {l : Launch} {e : Env} {s : State} {m : MethodId} {args : Array Value} {below : List Frame} {meth : Method} {c : Code} {G : x_G}
abbrev rm_X9_minutes : Room := { frames := 6, cells := 0, slots := 0, locals := 141 }
set_option maxHeartbeats 4000000 in
set_option maxRecDepth 100000 in
theorem c_X9_minutes (hG : x_OK TM G) {x1 : Int32} {σ τ : x_Hp} {r : Int32} (h : F_X9_minutes x1 σ = some (r, τ)) : x_M l TM G yX9_minutes cX9_minutes 2 (some .int) rm_X9_minutes [.ref (x_ad G 0), .int x1] σ (some (.int r)) τ := by
  refine x_M.of hG (lv := [(0, .ref (x_ad G 0)), (1, .int x1)]) (by decide) (Nat.le_of_ble_eq_true rfl) rfl (fun p e s m below meth c C => ?_)
  rw [F_X9_minutes] at h
  refine x_iload_n C 1 dX9_minutes_0 rfl rfl ?_
  refine x_iconst C (0 : Int32) dX9_minutes_1 (by decide) ?_
  refine x_sipush C (240 : Int32) dX9_minutes_2 (by decide) ?_
  obtain ⟨v1, σ1, hc1, h⟩ := x_b_some h
  refine x_callS C (n := 3) (c_X9_in hG hc1) wd_1531 wd_1532 wd_111 wd_1533 (by decide +kernel) rfl ⟨Nat.le_of_ble_eq_true rfl, Nat.le_of_ble_eq_true rfl⟩ ⟨rfl, rfl⟩ rfl (Nat.le_of_ble_eq_true rfl) dX9_minutes_5 ?_
  refine x_if_ne C 13 dX9_minutes_8 rfl (fun hc => ?_) (fun hc => ?_)
  · replace h := x_itn hc h
    refine x_iload_n C 1 dX9_minutes_13 rfl rfl ?_
    refine x_if_ne C 25 dX9_minutes_14 rfl (fun hc => ?_) (fun hc => ?_)
    · replace h := x_itn hc h
      refine x_aload_n C 0 dX9_minutes_25 rfl rfl ?_
      obtain ⟨v2, σ2, hc2, h⟩ := x_b_some h
      refine x_callV C (n := 0) (c_X9_copies hG hc2) kM_0 (by decide) rfl wd_1546 wd_1548 wd_70 wd_111 wd_1549 (by decide +kernel) rfl ⟨Nat.le_of_ble_eq_true rfl, Nat.le_of_ble_eq_true rfl⟩ ⟨rfl, rfl⟩ rfl (Nat.le_of_ble_eq_true rfl) dX9_minutes_26 ?_
      refine x_aload_n C 0 dX9_minutes_29 rfl rfl ?_
      refine x_iload_n C 1 dX9_minutes_30 rfl rfl ?_
      obtain ⟨v3, σ3, hc3, h⟩ := x_b_some h
      refine x_callV C (n := 1) (c_X9_goes hG hc3) kM_0 (by decide) rfl wd_1569 wd_1571 wd_74 wd_111 wd_1572 (by decide +kernel) rfl ⟨Nat.le_of_ble_eq_true rfl, Nat.le_of_ble_eq_true rfl⟩ ⟨rfl, rfl⟩ rfl (Nat.le_of_ble_eq_true rfl) dX9_minutes_31 ?_
      refine x_aload_n C 0 dX9_minutes_34 rfl rfl ?_
      obtain ⟨v4, σ4, hc4, h⟩ := x_b_some h
      refine x_callV C (n := 0) (c_X9_keeps hG hc4) kM_0 (by decide) rfl wd_1597 wd_1599 wd_80 wd_111 wd_1600 (by decide +kernel) rfl ⟨Nat.le_of_ble_eq_true rfl, Nat.le_of_ble_eq_true rfl⟩ ⟨rfl, rfl⟩ rfl (Nat.le_of_ble_eq_true rfl) dX9_minutes_35 ?_
      refine x_aload_n C 0 dX9_minutes_38 rfl rfl ?_
      refine x_getRq C (k := 48) kM_0 (by decide) rfl x_in9 (by decide) (by decide) rfl rfl wd_1256 rfM_0_48 dX9_minutes_39 ?_
      refine x_bipush C (12 : Int32) dX9_minutes_42 (by decide) ?_
      refine x_ialdJ C kM_31 (x_inl lnM_31 (by decide)) (j := 12) (by decide) dX9_minutes_44 ?_
      obtain ⟨rfl, rfl⟩ := x_ret h
      exact x_iret C dX9_minutes_45
    · replace h := x_itp hc h
      refine x_aload_n C 0 dX9_minutes_17 rfl rfl ?_
      refine x_getRq C (k := 48) kM_0 (by decide) rfl x_in9 (by decide) (by decide) rfl rfl wd_1256 rfM_0_48 dX9_minutes_18 ?_
      refine x_bipush C (12 : Int32) dX9_minutes_21 (by decide) ?_
      refine x_ialdJ C kM_31 (x_inl lnM_31 (by decide)) (j := 12) (by decide) dX9_minutes_23 ?_
      obtain ⟨rfl, rfl⟩ := x_ret h
      exact x_iret C dX9_minutes_24
  · replace h := x_itp hc h
    refine x_iconst C (-1 : Int32) dX9_minutes_11 (by decide) ?_
    obtain ⟨rfl, rfl⟩ := x_ret h
    exact x_iret C dX9_minutes_12
abbrev rm_X9_hand : Room := { frames := 2, cells := 0, slots := 0, locals := 43 }
set_option maxHeartbeats 4000000 in
set_option maxRecDepth 100000 in
theorem c_X9_hand (hG : x_OK TM G) {x1 : Int32} {σ τ : x_Hp} {r : Int32} (h : F_X9_hand x1 σ = some (r, τ)) : x_M l TM G yX9_hand cX9_hand 2 (some .boolean) rm_X9_hand [.ref (x_ad G 0), .int x1] σ (some (.int r)) τ := by
  refine x_M.of hG (lv := [(0, .ref (x_ad G 0)), (1, .int x1)]) (by decide) (Nat.le_of_ble_eq_true rfl) rfl (fun p e s m below meth c C => ?_)
  rw [F_X9_hand] at h
  refine x_aload_n C 0 dX9_hand_0 rfl rfl ?_
  refine x_iload_n C 1 dX9_hand_1 rfl rfl ?_
  obtain ⟨v1, σ1, hc1, h⟩ := x_b_some h
  refine x_callV C (n := 1) (c_X9_isAunt hG hc1) kM_0 (by decide) rfl wd_1538 wd_1540 wd_69 wd_111 wd_1541 (by decide +kernel) rfl ⟨Nat.le_of_ble_eq_true rfl, Nat.le_of_ble_eq_true rfl⟩ ⟨rfl, rfl⟩ rfl (Nat.le_of_ble_eq_true rfl) dX9_hand_2 ?_
  refine x_if_eq C 25 dX9_hand_5 rfl (fun hc => ?_) (fun hc => ?_)
  · replace h := x_itp hc h
    refine x_iconst C (0 : Int32) dX9_hand_25 (by decide) ?_
    obtain ⟨rfl, rfl⟩ := x_ret h
    exact x_zret C rfl dX9_hand_26
  · replace h := x_itn hc h
    refine x_aload_n C 0 dX9_hand_8 rfl rfl ?_
    obtain ⟨v2, σ2, hc2, h⟩ := x_b_some h
    refine x_callV C (n := 0) (c_X9_isAwake hG hc2) kM_0 (by decide) rfl wd_1605 wd_1607 wd_81 wd_111 wd_1608 (by decide +kernel) rfl ⟨Nat.le_of_ble_eq_true rfl, Nat.le_of_ble_eq_true rfl⟩ ⟨rfl, rfl⟩ rfl (Nat.le_of_ble_eq_true rfl) dX9_hand_9 ?_
    refine x_if_eq C 25 dX9_hand_12 rfl (fun hc => ?_) (fun hc => ?_)
    · replace h := x_itp hc h
      refine x_iconst C (0 : Int32) dX9_hand_25 (by decide) ?_
      obtain ⟨rfl, rfl⟩ := x_ret h
      exact x_zret C rfl dX9_hand_26
    · replace h := x_itn hc h
      refine x_iload_n C 1 dX9_hand_15 rfl rfl ?_
      refine x_aload_n C 0 dX9_hand_16 rfl rfl ?_
      refine x_getRq C (k := 48) kM_0 (by decide) rfl x_in9 (by decide) (by decide) rfl rfl wd_1256 rfM_0_48 dX9_hand_17 ?_
      refine x_iconst C (4 : Int32) dX9_hand_20 (by decide) ?_
      refine x_ialdJ C kM_31 (x_inl lnM_31 (by decide)) (j := 4) (by decide) dX9_hand_21 ?_
      refine x_icmp_ne C 27 dX9_hand_22 rfl (fun hc => ?_) (fun hc => ?_)
      · replace h := x_itn hc h
        refine x_aload_n C 0 dX9_hand_27 rfl rfl ?_
        obtain ⟨v3, σ3, hc3, h⟩ := x_b_some h
        refine x_callV C (n := 0) (c_X9_copies hG hc3) kM_0 (by decide) rfl wd_1546 wd_1548 wd_70 wd_111 wd_1549 (by decide +kernel) rfl ⟨Nat.le_of_ble_eq_true rfl, Nat.le_of_ble_eq_true rfl⟩ ⟨rfl, rfl⟩ rfl (Nat.le_of_ble_eq_true rfl) dX9_hand_28 ?_
        refine x_aload_n C 0 dX9_hand_31 rfl rfl ?_
        refine x_iload_n C 1 dX9_hand_32 rfl rfl ?_
        obtain ⟨v4, σ4, hc4, h⟩ := x_b_some h
        refine x_callV C (n := 1) (c_X9_hands hG hc4) kM_0 (by decide) rfl wd_1609 wd_1611 wd_82 wd_111 wd_1612 (by decide +kernel) rfl ⟨Nat.le_of_ble_eq_true rfl, Nat.le_of_ble_eq_true rfl⟩ ⟨rfl, rfl⟩ rfl (Nat.le_of_ble_eq_true rfl) dX9_hand_33 ?_
        refine x_aload_n C 0 dX9_hand_36 rfl rfl ?_
        obtain ⟨v5, σ5, hc5, h⟩ := x_b_some h
        refine x_callV C (n := 0) (c_X9_keeps hG hc5) kM_0 (by decide) rfl wd_1597 wd_1599 wd_80 wd_111 wd_1600 (by decide +kernel) rfl ⟨Nat.le_of_ble_eq_true rfl, Nat.le_of_ble_eq_true rfl⟩ ⟨rfl, rfl⟩ rfl (Nat.le_of_ble_eq_true rfl) dX9_hand_37 ?_
        refine x_iconst C (1 : Int32) dX9_hand_40 (by decide) ?_
        obtain ⟨rfl, rfl⟩ := x_ret h
        exact x_zret C rfl dX9_hand_41
      · replace h := x_itp hc h
        refine x_iconst C (0 : Int32) dX9_hand_25 (by decide) ?_
        obtain ⟨rfl, rfl⟩ := x_ret h
        exact x_zret C rfl dX9_hand_26
abbrev rm_X9_feedsNow : Room := { frames := 1, cells := 0, slots := 0, locals := 22 }
set_option maxHeartbeats 4000000 in
set_option maxRecDepth 100000 in
theorem c_X9_feedsNow (hG : x_OK TM G) {σ τ : x_Hp} (h : F_X9_feedsNow σ = some ((), τ)) : x_M l TM G yX9_feedsNow cX9_feedsNow 1 none rm_X9_feedsNow [.ref (x_ad G 0)] σ none τ := by
  refine x_M.of hG (lv := [(0, .ref (x_ad G 0))]) (by decide) (Nat.le_of_ble_eq_true rfl) rfl (fun p e s m below meth c C => ?_)
  rw [F_X9_feedsNow] at h
  refine x_aload_n C 0 dX9_feedsNow_0 rfl rfl ?_
  refine x_getRq C (k := 49) kM_0 (by decide) rfl x_in9 (by decide) (by decide) rfl rfl wd_1257 rfM_0_49 dX9_feedsNow_1 ?_
  refine x_iconst C (0 : Int32) dX9_feedsNow_4 (by decide) ?_
  refine x_iconst C (0 : Int32) dX9_feedsNow_5 (by decide) ?_
  refine x_iastJ C kM_32 (x_inl lnM_32 (by decide)) (j := 0) (by decide) dX9_feedsNow_6 (x_gen h fun σ1 h => ?_)
  refine x_aload_n C 0 dX9_feedsNow_7 rfl rfl ?_
  refine x_getRq C (k := 49) kM_0 (by decide) rfl x_in9 (by decide) (by decide) rfl rfl wd_1257 rfM_0_49 dX9_feedsNow_8 ?_
  refine x_iconst C (3 : Int32) dX9_feedsNow_11 (by decide) ?_
  refine x_aload_n C 0 dX9_feedsNow_12 rfl rfl ?_
  refine x_getRq C (k := 49) kM_0 (by decide) rfl x_in9 (by decide) (by decide) rfl rfl wd_1257 rfM_0_49 dX9_feedsNow_13 ?_
  refine x_iconst C (3 : Int32) dX9_feedsNow_16 (by decide) ?_
  refine x_ialdJ C kM_32 (x_inl lnM_32 (by decide)) (j := 3) (by decide) dX9_feedsNow_17 ?_
  refine x_aload_n C 0 dX9_feedsNow_18 rfl rfl ?_
  refine x_getRq C (k := 30) kM_0 (by decide) rfl x_in9 (by decide) (by decide) rfl rfl wd_1238 rfM_0_30 dX9_feedsNow_19 ?_
  refine x_aload_n C 0 dX9_feedsNow_22 rfl rfl ?_
  refine x_getI C (k := 18) kM_0 (by decide) rfl x_in9 (by decide) (by decide) rfl rfl wd_1226 dX9_feedsNow_23 ?_
  obtain ⟨hi2, h⟩ := x_gd_some h
  refine x_iald C kM_17 (x_inl lnM_17 hi2) dX9_feedsNow_26 ?_
  refine x_iadd C dX9_feedsNow_27 ?_
  refine x_iconst C (0 : Int32) dX9_feedsNow_28 (by decide) ?_
  refine x_bipush C (99 : Int32) dX9_feedsNow_29 (by decide) ?_
  obtain ⟨v3, σ3, hc3, h⟩ := x_b_some h
  refine x_callS C (n := 3) (c_X9_held hG hc3) wd_1562 wd_1563 wd_111 wd_1564 (by decide +kernel) rfl ⟨Nat.le_of_ble_eq_true rfl, Nat.le_of_ble_eq_true rfl⟩ ⟨rfl, rfl⟩ rfl (Nat.le_of_ble_eq_true rfl) dX9_feedsNow_31 ?_
  refine x_iastJ C kM_32 (x_inl lnM_32 (by decide)) (j := 3) (by decide) dX9_feedsNow_34 (x_gen h fun σ4 h => ?_)
  obtain ⟨-, rfl⟩ := x_ret h
  exact x_vret C dX9_feedsNow_35
abbrev rm_X9_nurse : Room := { frames := 2, cells := 0, slots := 0, locals := 42 }
set_option maxHeartbeats 4000000 in
set_option maxRecDepth 100000 in
theorem c_X9_nurse (hG : x_OK TM G) {σ τ : x_Hp} {r : Int32} (h : F_X9_nurse σ = some (r, τ)) : x_M l TM G yX9_nurse cX9_nurse 1 (some .boolean) rm_X9_nurse [.ref (x_ad G 0)] σ (some (.int r)) τ := by
  refine x_M.of hG (lv := [(0, .ref (x_ad G 0))]) (by decide) (Nat.le_of_ble_eq_true rfl) rfl (fun p e s m below meth c C => ?_)
  rw [F_X9_nurse] at h
  refine x_aload_n C 0 dX9_nurse_0 rfl rfl ?_
  obtain ⟨v1, σ1, hc1, h⟩ := x_b_some h
  refine x_callV C (n := 0) (c_X9_isAwake hG hc1) kM_0 (by decide) rfl wd_1605 wd_1607 wd_81 wd_111 wd_1608 (by decide +kernel) rfl ⟨Nat.le_of_ble_eq_true rfl, Nat.le_of_ble_eq_true rfl⟩ ⟨rfl, rfl⟩ rfl (Nat.le_of_ble_eq_true rfl) dX9_nurse_1 ?_
  refine x_if_ne C 9 dX9_nurse_4 rfl (fun hc => ?_) (fun hc => ?_)
  · replace h := x_itn hc h
    refine x_aload_n C 0 dX9_nurse_9 rfl rfl ?_
    obtain ⟨v2, σ2, hc2, h⟩ := x_b_some h
    refine x_callV C (n := 0) (c_X9_copies hG hc2) kM_0 (by decide) rfl wd_1546 wd_1548 wd_70 wd_111 wd_1549 (by decide +kernel) rfl ⟨Nat.le_of_ble_eq_true rfl, Nat.le_of_ble_eq_true rfl⟩ ⟨rfl, rfl⟩ rfl (Nat.le_of_ble_eq_true rfl) dX9_nurse_10 ?_
    refine x_aload_n C 0 dX9_nurse_13 rfl rfl ?_
    obtain ⟨v3, σ3, hc3, h⟩ := x_b_some h
    refine x_callV C (n := 0) (c_X9_feedsNow hG hc3) kM_0 (by decide) rfl wd_1617 wd_1619 wd_83 wd_111 wd_1620 (by decide +kernel) rfl ⟨Nat.le_of_ble_eq_true rfl, Nat.le_of_ble_eq_true rfl⟩ ⟨rfl, rfl⟩ rfl (Nat.le_of_ble_eq_true rfl) dX9_nurse_14 ?_
    refine x_aload_n C 0 dX9_nurse_17 rfl rfl ?_
    obtain ⟨v4, σ4, hc4, h⟩ := x_b_some h
    refine x_callV C (n := 0) (c_X9_keeps hG hc4) kM_0 (by decide) rfl wd_1597 wd_1599 wd_80 wd_111 wd_1600 (by decide +kernel) rfl ⟨Nat.le_of_ble_eq_true rfl, Nat.le_of_ble_eq_true rfl⟩ ⟨rfl, rfl⟩ rfl (Nat.le_of_ble_eq_true rfl) dX9_nurse_18 ?_
    refine x_iconst C (1 : Int32) dX9_nurse_21 (by decide) ?_
    obtain ⟨rfl, rfl⟩ := x_ret h
    exact x_zret C rfl dX9_nurse_22
  · replace h := x_itp hc h
    refine x_iconst C (0 : Int32) dX9_nurse_7 (by decide) ?_
    obtain ⟨rfl, rfl⟩ := x_ret h
    exact x_zret C rfl dX9_nurse_8
abbrev rm_X9_lay : Room := { frames := 2, cells := 0, slots := 0, locals := 42 }
set_option maxHeartbeats 4000000 in
set_option maxRecDepth 100000 in
theorem c_X9_lay (hG : x_OK TM G) {σ τ : x_Hp} {r : Int32} (h : F_X9_lay σ = some (r, τ)) : x_M l TM G yX9_lay cX9_lay 1 (some .boolean) rm_X9_lay [.ref (x_ad G 0)] σ (some (.int r)) τ := by
  refine x_M.of hG (lv := [(0, .ref (x_ad G 0))]) (by decide) (Nat.le_of_ble_eq_true rfl) rfl (fun p e s m below meth c C => ?_)
  rw [F_X9_lay] at h
  refine x_aload_n C 0 dX9_lay_0 rfl rfl ?_
  obtain ⟨v1, σ1, hc1, h⟩ := x_b_some h
  refine x_callV C (n := 0) (c_X9_isAwake hG hc1) kM_0 (by decide) rfl wd_1605 wd_1607 wd_81 wd_111 wd_1608 (by decide +kernel) rfl ⟨Nat.le_of_ble_eq_true rfl, Nat.le_of_ble_eq_true rfl⟩ ⟨rfl, rfl⟩ rfl (Nat.le_of_ble_eq_true rfl) dX9_lay_1 ?_
  refine x_if_ne C 9 dX9_lay_4 rfl (fun hc => ?_) (fun hc => ?_)
  · replace h := x_itn hc h
    refine x_aload_n C 0 dX9_lay_9 rfl rfl ?_
    obtain ⟨v2, σ2, hc2, h⟩ := x_b_some h
    refine x_callV C (n := 0) (c_X9_copies hG hc2) kM_0 (by decide) rfl wd_1546 wd_1548 wd_70 wd_111 wd_1549 (by decide +kernel) rfl ⟨Nat.le_of_ble_eq_true rfl, Nat.le_of_ble_eq_true rfl⟩ ⟨rfl, rfl⟩ rfl (Nat.le_of_ble_eq_true rfl) dX9_lay_10 ?_
    refine x_aload_n C 0 dX9_lay_13 rfl rfl ?_
    obtain ⟨v3, σ3, hc3, h⟩ := x_b_some h
    refine x_callV C (n := 0) (c_X9_fallsAsleep hG hc3) kM_0 (by decide) rfl wd_1593 wd_1595 wd_79 wd_111 wd_1596 (by decide +kernel) rfl ⟨Nat.le_of_ble_eq_true rfl, Nat.le_of_ble_eq_true rfl⟩ ⟨rfl, rfl⟩ rfl (Nat.le_of_ble_eq_true rfl) dX9_lay_14 ?_
    refine x_aload_n C 0 dX9_lay_17 rfl rfl ?_
    obtain ⟨v4, σ4, hc4, h⟩ := x_b_some h
    refine x_callV C (n := 0) (c_X9_keeps hG hc4) kM_0 (by decide) rfl wd_1597 wd_1599 wd_80 wd_111 wd_1600 (by decide +kernel) rfl ⟨Nat.le_of_ble_eq_true rfl, Nat.le_of_ble_eq_true rfl⟩ ⟨rfl, rfl⟩ rfl (Nat.le_of_ble_eq_true rfl) dX9_lay_18 ?_
    refine x_iconst C (1 : Int32) dX9_lay_21 (by decide) ?_
    obtain ⟨rfl, rfl⟩ := x_ret h
    exact x_zret C rfl dX9_lay_22
  · replace h := x_itp hc h
    refine x_iconst C (0 : Int32) dX9_lay_7 (by decide) ?_
    obtain ⟨rfl, rfl⟩ := x_ret h
    exact x_zret C rfl dX9_lay_8
abbrev rm_X9_turns : Room := { frames := 2, cells := 0, slots := 0, locals := 42 }
set_option maxHeartbeats 4000000 in
set_option maxRecDepth 100000 in
theorem w_X9_turns_34 {r : Int32} {τ : x_Hp} (C : x_C p s m args meth c cX9_turns 4 (some .boolean) yX9_turns.cls TM G) (x3 : Int32) (s0 : Int32) (s1 : Int32) (σ : x_Hp) (h : F_X9_turns_34 x3 s0 s1 σ = some (r, τ)) : x_W p l e rm_X9_turns s m args below meth c (MQ below (x_Q TM G (some (.int r)) τ) args s 0 0 (x_A TM G)) TM G 4 34 [(0, .ref (x_ad G 0)), (3, .int x3)] [.int s0, .int s1, .ref (x_ad G 32)] σ := by
  have hG : x_OK TM G := C.2.2.2.2.2.2.2.2.1
  rw [F_X9_turns_34] at h
  obtain ⟨hi3, h⟩ := x_gd_some h
  refine x_iast C kM_32 (x_inl lnM_32 hi3) dX9_turns_34 (x_gen h fun σ4 h => ?_)
  refine x_aload_n C 0 dX9_turns_35 rfl rfl ?_
  obtain ⟨v5, σ5, hc5, h⟩ := x_b_some h
  refine x_callV C (n := 0) (c_X9_keeps hG hc5) kM_0 (by decide) rfl wd_1597 wd_1599 wd_80 wd_111 wd_1600 (by decide +kernel) rfl ⟨Nat.le_of_ble_eq_true rfl, Nat.le_of_ble_eq_true rfl⟩ ⟨rfl, rfl⟩ rfl (Nat.le_of_ble_eq_true rfl) dX9_turns_36 ?_
  refine x_iload_n C 1 dX9_turns_39 rfl rfl ?_
  obtain ⟨hg, h⟩ := x_gd_some h
  obtain ⟨rfl, rfl⟩ := x_ret h
  exact x_zret C (x_isz_n hg) dX9_turns_40
set_option maxHeartbeats 4000000 in
set_option maxRecDepth 100000 in
theorem w_X9_turns_19 {r : Int32} {τ : x_Hp} (C : x_C p s m args meth c cX9_turns 4 (some .boolean) yX9_turns.cls TM G) (x1 : Int32) (x2 : Int32) (s0 : Int32) (σ : x_Hp) (h : F_X9_turns_19 x1 x2 s0 σ = some (r, τ)) : x_W p l e rm_X9_turns s m args below meth c (MQ below (x_Q TM G (some (.int r)) τ) args s 0 0 (x_A TM G)) TM G 4 19 [(0, .ref (x_ad G 0)), (1, .int x1), (2, .int x2)] [.int s0] σ := by
  have hG : x_OK TM G := C.2.2.2.2.2.2.2.2.1
  rw [F_X9_turns_19] at h
  refine x_istore_n C [(3, .int s0), (0, .ref (x_ad G 0)), (1, .int x1), (2, .int x2)] dX9_turns_19 rfl (by decide) rfl ?_
  refine x_aload_n C 1 dX9_turns_20 rfl rfl ?_
  refine x_getRq C (k := 49) kM_0 (by decide) rfl x_in9 (by decide) (by decide) rfl rfl wd_1257 rfM_0_49 dX9_turns_21 ?_
  refine x_iload_n C 2 dX9_turns_24 rfl rfl ?_
  refine x_iload_n C 3 dX9_turns_25 rfl rfl ?_
  refine x_if_eq C 33 dX9_turns_26 rfl (fun hc => ?_) (fun hc => ?_)
  · replace h := x_itp hc h
    refine x_iconst C (0 : Int32) dX9_turns_33 (by decide) ?_
    exact x_sub [1, 0] rfl (w_X9_turns_34 C s0 (0 : Int32) x1 σ h)
  · replace h := x_itn hc h
    refine x_iconst C (1 : Int32) dX9_turns_29 (by decide) ?_
    refine x_goto C 34 dX9_turns_30 rfl ?_
    exact x_sub [1, 0] rfl (w_X9_turns_34 C s0 (1 : Int32) x1 σ h)
set_option maxHeartbeats 4000000 in
set_option maxRecDepth 100000 in
theorem c_X9_turns (hG : x_OK TM G) {x1 : Int32} {x2 : Int32} {σ τ : x_Hp} {r : Int32} (h : F_X9_turns x1 x2 σ = some (r, τ)) : x_M l TM G yX9_turns cX9_turns 4 (some .boolean) rm_X9_turns [.ref (x_ad G 0), .int x1, .int x2] σ (some (.int r)) τ := by
  refine x_M.of hG (lv := [(0, .ref (x_ad G 0)), (1, .int x1), (2, .int x2)]) (by decide) (Nat.le_of_ble_eq_true rfl) rfl (fun p e s m below meth c C => ?_)
  rw [F_X9_turns] at h
  refine x_aload_n C 0 dX9_turns_0 rfl rfl ?_
  obtain ⟨v1, σ1, hc1, h⟩ := x_b_some h
  refine x_callV C (n := 0) (c_X9_copies hG hc1) kM_0 (by decide) rfl wd_1546 wd_1548 wd_70 wd_111 wd_1549 (by decide +kernel) rfl ⟨Nat.le_of_ble_eq_true rfl, Nat.le_of_ble_eq_true rfl⟩ ⟨rfl, rfl⟩ rfl (Nat.le_of_ble_eq_true rfl) dX9_turns_1 ?_
  refine x_aload_n C 0 dX9_turns_4 rfl rfl ?_
  refine x_getRq C (k := 49) kM_0 (by decide) rfl x_in9 (by decide) (by decide) rfl rfl wd_1257 rfM_0_49 dX9_turns_5 ?_
  refine x_iload_n C 1 dX9_turns_8 rfl rfl ?_
  obtain ⟨hi2, h⟩ := x_gd_some h
  refine x_iald C kM_32 (x_inl lnM_32 hi2) dX9_turns_9 ?_
  refine x_iconst C (1 : Int32) dX9_turns_10 (by decide) ?_
  refine x_icmp_ne C 18 dX9_turns_11 rfl (fun hc => ?_) (fun hc => ?_)
  · replace h := x_itn hc h
    refine x_iconst C (0 : Int32) dX9_turns_18 (by decide) ?_
    exact x_sub [0, 1, 2] rfl (w_X9_turns_19 C x1 x2 (0 : Int32) σ1 h)
  · replace h := x_itp hc h
    refine x_iconst C (1 : Int32) dX9_turns_14 (by decide) ?_
    refine x_goto C 19 dX9_turns_15 rfl ?_
    exact x_sub [0, 1, 2] rfl (w_X9_turns_19 C x1 x2 (1 : Int32) σ1 h)
abbrev rm_X9_cloth : Room := { frames := 3, cells := 0, slots := 0, locals := 65 }
set_option maxHeartbeats 4000000 in
set_option maxRecDepth 100000 in
theorem c_X9_cloth (hG : x_OK TM G) {x1 : Int32} {σ τ : x_Hp} {r : Int32} (h : F_X9_cloth x1 σ = some (r, τ)) : x_M l TM G yX9_cloth cX9_cloth 2 (some .boolean) rm_X9_cloth [.ref (x_ad G 0), .int x1] σ (some (.int r)) τ := by
  refine x_M.of hG (lv := [(0, .ref (x_ad G 0)), (1, .int x1)]) (by decide) (Nat.le_of_ble_eq_true rfl) rfl (fun p e s m below meth c C => ?_)
  rw [F_X9_cloth] at h
  refine x_aload_n C 0 dX9_cloth_0 rfl rfl ?_
  refine x_bipush C (8 : Int32) dX9_cloth_1 (by decide) ?_
  refine x_iload_n C 1 dX9_cloth_3 rfl rfl ?_
  obtain ⟨v1, σ1, hc1, h⟩ := x_b_some h
  refine x_callV C (n := 2) (c_X9_turns hG hc1) kM_0 (by decide) rfl wd_1629 wd_1631 wd_84 wd_111 wd_1632 (by decide +kernel) rfl ⟨Nat.le_of_ble_eq_true rfl, Nat.le_of_ble_eq_true rfl⟩ ⟨rfl, rfl⟩ rfl (Nat.le_of_ble_eq_true rfl) dX9_cloth_4 ?_
  obtain ⟨hg, h⟩ := x_gd_some h
  obtain ⟨rfl, rfl⟩ := x_ret h
  exact x_zret C (x_isz_n hg) dX9_cloth_7
abbrev rm_X9_mother : Room := { frames := 3, cells := 0, slots := 0, locals := 65 }
set_option maxHeartbeats 4000000 in
set_option maxRecDepth 100000 in
theorem c_X9_mother (hG : x_OK TM G) {x1 : Int32} {σ τ : x_Hp} {r : Int32} (h : F_X9_mother x1 σ = some (r, τ)) : x_M l TM G yX9_mother cX9_mother 2 (some .boolean) rm_X9_mother [.ref (x_ad G 0), .int x1] σ (some (.int r)) τ := by
  refine x_M.of hG (lv := [(0, .ref (x_ad G 0)), (1, .int x1)]) (by decide) (Nat.le_of_ble_eq_true rfl) rfl (fun p e s m below meth c C => ?_)
  rw [F_X9_mother] at h
  refine x_aload_n C 0 dX9_mother_0 rfl rfl ?_
  refine x_bipush C (9 : Int32) dX9_mother_1 (by decide) ?_
  refine x_iload_n C 1 dX9_mother_3 rfl rfl ?_
  obtain ⟨v1, σ1, hc1, h⟩ := x_b_some h
  refine x_callV C (n := 2) (c_X9_turns hG hc1) kM_0 (by decide) rfl wd_1629 wd_1631 wd_84 wd_111 wd_1632 (by decide +kernel) rfl ⟨Nat.le_of_ble_eq_true rfl, Nat.le_of_ble_eq_true rfl⟩ ⟨rfl, rfl⟩ rfl (Nat.le_of_ble_eq_true rfl) dX9_mother_4 ?_
  obtain ⟨hg, h⟩ := x_gd_some h
  obtain ⟨rfl, rfl⟩ := x_ret h
  exact x_zret C (x_isz_n hg) dX9_mother_7
abbrev rm_X9_undo : Room := { frames := 0, cells := 0, slots := 0, locals := 0 }
set_option maxHeartbeats 4000000 in
set_option maxRecDepth 100000 in
theorem w_X9_undo_21 {r : Int32} {τ : x_Hp} (C : x_C p s m args meth c cX9_undo 2 (some .boolean) yX9_undo.cls TM G) : ∀ (n : Nat) (x1 : Int32) (σ : x_Hp) (h : F_X9_undo_21 n x1 σ = some (r, τ)), x_W p l e rm_X9_undo s m args below meth c (MQ below (x_Q TM G (some (.int r)) τ) args s 0 0 (x_A TM G)) TM G 2 21 [(0, .ref (x_ad G 0)), (1, .int x1)] [] σ := by
  intro n
  induction n with
  | zero => intro x1 σ  h; cases h
  | succ n ih =>
    intro x1 σ  h
    have hG : x_OK TM G := C.2.2.2.2.2.2.2.2.1
    rw [F_X9_undo_21] at h
    refine x_iload_n C 1 dX9_undo_21 rfl rfl ?_
    refine x_bipush C (60 : Int32) dX9_undo_22 (by decide) ?_
    refine x_icmp_ge C 53 dX9_undo_24 rfl (fun hc => ?_) (fun hc => ?_)
    · replace h := x_itp hc h
      refine x_iconst C (1 : Int32) dX9_undo_53 (by decide) ?_
      obtain ⟨rfl, rfl⟩ := x_ret h
      exact x_zret C rfl dX9_undo_54
    · replace h := x_itn hc h
      refine x_aload_n C 0 dX9_undo_27 rfl rfl ?_
      refine x_getRq C (k := 48) kM_0 (by decide) rfl x_in9 (by decide) (by decide) rfl rfl wd_1256 rfM_0_48 dX9_undo_28 ?_
      refine x_iload_n C 1 dX9_undo_31 rfl rfl ?_
      refine x_aload_n C 0 dX9_undo_32 rfl rfl ?_
      refine x_getRq C (k := 55) kM_0 (by decide) rfl x_in9 (by decide) (by decide) rfl rfl wd_1263 rfM_0_55 dX9_undo_33 ?_
      refine x_bipush C (60 : Int32) dX9_undo_36 (by decide) ?_
      refine x_aload_n C 0 dX9_undo_38 rfl rfl ?_
      refine x_getI C (k := 54) kM_0 (by decide) rfl x_in9 (by decide) (by decide) rfl rfl wd_1262 dX9_undo_39 ?_
      refine x_imul C dX9_undo_42 ?_
      refine x_iload_n C 1 dX9_undo_43 rfl rfl ?_
      refine x_iadd C dX9_undo_44 ?_
      obtain ⟨hi2, h⟩ := x_gd_some h
      refine x_iald C kM_34 (x_inl lnM_34 hi2) dX9_undo_45 ?_
      obtain ⟨hi3, h⟩ := x_gd_some h
      refine x_iast C kM_31 (x_inl lnM_31 hi3) dX9_undo_46 (x_gen h fun σ4 h => ?_)
      refine x_iinc C 1 (x1 + (1 : Int32)) [(1, .int (x1 + (1 : Int32))), (0, .ref (x_ad G 0))] dX9_undo_47 rfl rfl (by decide) rfl ?_
      refine x_goto C 21 dX9_undo_50 rfl ?_
      exact x_sub [1, 0] rfl (ih (x1 + (1 : Int32)) σ4 h)
set_option maxHeartbeats 4000000 in
set_option maxRecDepth 100000 in
theorem c_X9_undo (hG : x_OK TM G) {σ τ : x_Hp} {r : Int32} (h : F_X9_undo σ = some (r, τ)) : x_M l TM G yX9_undo cX9_undo 2 (some .boolean) rm_X9_undo [.ref (x_ad G 0)] σ (some (.int r)) τ := by
  refine x_M.of hG (lv := [(0, .ref (x_ad G 0))]) (by decide) (Nat.le_of_ble_eq_true rfl) rfl (fun p e s m below meth c C => ?_)
  rw [F_X9_undo] at h
  refine x_aload_n C 0 dX9_undo_0 rfl rfl ?_
  refine x_getI C (k := 54) kM_0 (by decide) rfl x_in9 (by decide) (by decide) rfl rfl wd_1262 dX9_undo_1 ?_
  refine x_if_ne C 9 dX9_undo_4 rfl (fun hc => ?_) (fun hc => ?_)
  · replace h := x_itn hc h
    refine x_aload_n C 0 dX9_undo_9 rfl rfl ?_
    refine x_dup C dX9_undo_10 rfl ?_
    refine x_getI C (k := 54) kM_0 (by decide) rfl x_in9 (by decide) (by decide) rfl rfl wd_1262 dX9_undo_11 ?_
    refine x_iconst C (1 : Int32) dX9_undo_14 (by decide) ?_
    refine x_isub C dX9_undo_15 ?_
    refine x_putI C (k := 54) tyX9 kM_0 (by decide) rfl x_in9 tyX9_ok nmX9 (by decide) (by decide) rfl rfl wd_1262 rfl (tyX9_ok 54 (by decide)) rfl rfl dX9_undo_16 (x_gen h fun σ1 h => ?_)
    refine x_iconst C (0 : Int32) dX9_undo_19 (by decide) ?_
    refine x_istore_n C [(1, .int (0 : Int32)), (0, .ref (x_ad G 0))] dX9_undo_20 rfl (by decide) rfl ?_
    exact x_sub [1, 0] rfl (w_X9_undo_21 C x_fuel (0 : Int32) σ1 h)
  · replace h := x_itp hc h
    refine x_iconst C (0 : Int32) dX9_undo_7 (by decide) ?_
    obtain ⟨rfl, rfl⟩ := x_ret h
    exact x_zret C rfl dX9_undo_8
abbrev rm_X9_crying : Room := { frames := 7, cells := 0, slots := 0, locals := 163 }
set_option maxHeartbeats 4000000 in
set_option maxRecDepth 100000 in
theorem c_X9_crying (hG : x_OK TM G) {x1 : Int32} {σ τ : x_Hp} {r : Int32} (h : F_X9_crying x1 σ = some (r, τ)) : x_M l TM G yX9_crying cX9_crying 2 (some .int) rm_X9_crying [.ref (x_ad G 0), .int x1] σ (some (.int r)) τ := by
  refine x_M.of hG (lv := [(0, .ref (x_ad G 0)), (1, .int x1)]) (by decide) (Nat.le_of_ble_eq_true rfl) rfl (fun p e s m below meth c C => ?_)
  rw [F_X9_crying] at h
  refine x_iload_n C 1 dX9_crying_0 rfl rfl ?_
  refine x_iconst C (0 : Int32) dX9_crying_1 (by decide) ?_
  refine x_sipush C (240 : Int32) dX9_crying_2 (by decide) ?_
  obtain ⟨v1, σ1, hc1, h⟩ := x_b_some h
  refine x_callS C (n := 3) (c_X9_in hG hc1) wd_1531 wd_1532 wd_111 wd_1533 (by decide +kernel) rfl ⟨Nat.le_of_ble_eq_true rfl, Nat.le_of_ble_eq_true rfl⟩ ⟨rfl, rfl⟩ rfl (Nat.le_of_ble_eq_true rfl) dX9_crying_5 ?_
  refine x_if_ne C 13 dX9_crying_8 rfl (fun hc => ?_) (fun hc => ?_)
  · replace h := x_itn hc h
    refine x_aload_n C 0 dX9_crying_13 rfl rfl ?_
    obtain ⟨v2, σ2, hc2, h⟩ := x_b_some h
    refine x_callV C (n := 0) (c_X9_copies hG hc2) kM_0 (by decide) rfl wd_1546 wd_1548 wd_70 wd_111 wd_1549 (by decide +kernel) rfl ⟨Nat.le_of_ble_eq_true rfl, Nat.le_of_ble_eq_true rfl⟩ ⟨rfl, rfl⟩ rfl (Nat.le_of_ble_eq_true rfl) dX9_crying_14 ?_
    refine x_aload_n C 0 dX9_crying_17 rfl rfl ?_
    refine x_iload_n C 1 dX9_crying_18 rfl rfl ?_
    obtain ⟨v3, σ3, hc3, h⟩ := x_b_some h
    refine x_callV C (n := 1) (c_X9_cries hG hc3) kM_0 (by decide) rfl wd_1645 wd_1647 wd_85 wd_111 wd_1648 (by decide +kernel) rfl ⟨Nat.le_of_ble_eq_true rfl, Nat.le_of_ble_eq_true rfl⟩ ⟨rfl, rfl⟩ rfl (Nat.le_of_ble_eq_true rfl) dX9_crying_19 ?_
    obtain ⟨rfl, rfl⟩ := x_ret h
    exact x_iret C dX9_crying_22
  · replace h := x_itp hc h
    refine x_iconst C (-1 : Int32) dX9_crying_11 (by decide) ?_
    obtain ⟨rfl, rfl⟩ := x_ret h
    exact x_iret C dX9_crying_12
abbrev rm_X9_next : Room := { frames := 7, cells := 0, slots := 0, locals := 163 }
set_option maxHeartbeats 4000000 in
set_option maxRecDepth 100000 in
theorem w_X9_next_104 {r : Int32} {τ : x_Hp} (C : x_C p s m args meth c cX9_next 7 (some .int) yX9_next.cls TM G) {k31 : Int32 → Int32 → Int32 → Int32 → Int32 → x_Hp → Option (Int32 × x_Hp)} (hk31 : ∀ (x1 : Int32) (x2 : Int32) (x3 : Int32) (x4 : Int32) (x5 : Int32) (σ : x_Hp) (h : k31 x1 x2 x3 x4 x5 σ = some (r, τ)), x_W p l e rm_X9_next s m args below meth c (MQ below (x_Q TM G (some (.int r)) τ) args s 0 0 (x_A TM G)) TM G 7 31 [(0, .ref (x_ad G 0)), (1, .int x1), (2, .int x2), (3, .int x3), (4, .int x4), (5, .int x5)] [] σ) (x1 : Int32) (x2 : Int32) (x3 : Int32) (x4 : Int32) (x5 : Int32) (σ : x_Hp) (h : F_X9_next_104 k31 x1 x2 x3 x4 x5 σ = some (r, τ)) : x_W p l e rm_X9_next s m args below meth c (MQ below (x_Q TM G (some (.int r)) τ) args s 0 0 (x_A TM G)) TM G 7 104 [(0, .ref (x_ad G 0)), (1, .int x1), (2, .int x2), (3, .int x3), (4, .int x4), (5, .int x5)] [] σ := by
  have hG : x_OK TM G := C.2.2.2.2.2.2.2.2.1
  rw [F_X9_next_104] at h
  refine x_iinc C 5 (x5 + (1 : Int32)) [(5, .int (x5 + (1 : Int32))), (0, .ref (x_ad G 0)), (1, .int x1), (2, .int x2), (3, .int x3), (4, .int x4)] dX9_next_104 rfl rfl (by decide) rfl ?_
  refine x_goto C 31 dX9_next_107 rfl ?_
  exact x_sub [1, 2, 3, 4, 5, 0] rfl (hk31 x1 x2 x3 x4 (x5 + (1 : Int32)) σ h)
set_option maxHeartbeats 4000000 in
set_option maxRecDepth 100000 in
theorem w_X9_next_97 {r : Int32} {τ : x_Hp} (C : x_C p s m args meth c cX9_next 7 (some .int) yX9_next.cls TM G) {k31 : Int32 → Int32 → Int32 → Int32 → Int32 → x_Hp → Option (Int32 × x_Hp)} (hk31 : ∀ (x1 : Int32) (x2 : Int32) (x3 : Int32) (x4 : Int32) (x5 : Int32) (σ : x_Hp) (h : k31 x1 x2 x3 x4 x5 σ = some (r, τ)), x_W p l e rm_X9_next s m args below meth c (MQ below (x_Q TM G (some (.int r)) τ) args s 0 0 (x_A TM G)) TM G 7 31 [(0, .ref (x_ad G 0)), (1, .int x1), (2, .int x2), (3, .int x3), (4, .int x4), (5, .int x5)] [] σ) (x1 : Int32) (x2 : Int32) (x5 : Int32) (x6 : Int32) (σ : x_Hp) (h : F_X9_next_97 k31 x1 x2 x5 x6 σ = some (r, τ)) : x_W p l e rm_X9_next s m args below meth c (MQ below (x_Q TM G (some (.int r)) τ) args s 0 0 (x_A TM G)) TM G 7 97 [(0, .ref (x_ad G 0)), (1, .int x1), (2, .int x2), (5, .int x5), (6, .int x6)] [] σ := by
  have hG : x_OK TM G := C.2.2.2.2.2.2.2.2.1
  rw [F_X9_next_97] at h
  refine x_iload C 3 dX9_next_97 rfl ?_
  refine x_istore_n C [(3, .int x5), (0, .ref (x_ad G 0)), (1, .int x1), (2, .int x2), (5, .int x5), (6, .int x6)] dX9_next_99 rfl (by decide) rfl ?_
  refine x_iload C 5 dX9_next_100 rfl ?_
  refine x_istore C [(4, .int x6), (3, .int x5), (0, .ref (x_ad G 0)), (1, .int x1), (2, .int x2), (5, .int x5), (6, .int x6)] dX9_next_102 (by decide) rfl ?_
  exact x_sub [2, 3, 4, 1, 0, 5] rfl (w_X9_next_104 C hk31 x1 x2 x5 x6 x5 σ h)
set_option maxHeartbeats 4000000 in
set_option maxRecDepth 100000 in
theorem w_X9_next_31 {r : Int32} {τ : x_Hp} (C : x_C p s m args meth c cX9_next 7 (some .int) yX9_next.cls TM G) : ∀ (n : Nat) (x1 : Int32) (x2 : Int32) (x3 : Int32) (x4 : Int32) (x5 : Int32) (σ : x_Hp) (h : F_X9_next_31 n x1 x2 x3 x4 x5 σ = some (r, τ)), x_W p l e rm_X9_next s m args below meth c (MQ below (x_Q TM G (some (.int r)) τ) args s 0 0 (x_A TM G)) TM G 7 31 [(0, .ref (x_ad G 0)), (1, .int x1), (2, .int x2), (3, .int x3), (4, .int x4), (5, .int x5)] [] σ := by
  intro n
  induction n with
  | zero => intro x1 x2 x3 x4 x5 σ  h; cases h
  | succ n ih =>
    intro x1 x2 x3 x4 x5 σ  h
    have hG : x_OK TM G := C.2.2.2.2.2.2.2.2.1
    rw [F_X9_next_31] at h
    refine x_iload C 5 dX9_next_31 rfl ?_
    refine x_aload_n C 0 dX9_next_33 rfl rfl ?_
    refine x_getRq C (k := 23) kM_0 (by decide) rfl x_in9 (by decide) (by decide) rfl rfl wd_1231 rfM_0_23 dX9_next_34 ?_
    refine x_aload_n C 0 dX9_next_37 rfl rfl ?_
    refine x_getI C (k := 18) kM_0 (by decide) rfl x_in9 (by decide) (by decide) rfl rfl wd_1226 dX9_next_38 ?_
    obtain ⟨hi3, h⟩ := x_gd_some h
    refine x_iald C kM_10 (x_inl lnM_10 hi3) dX9_next_41 ?_
    refine x_icmp_ge C 110 dX9_next_42 rfl (fun hc => ?_) (fun hc => ?_)
    · replace h := x_itp hc h
      refine x_iload_n C 2 dX9_next_110 rfl rfl ?_
      refine x_if_ne C 118 dX9_next_111 rfl (fun hc => ?_) (fun hc => ?_)
      · replace h := x_itn hc h
        refine x_iload C 4 dX9_next_118 rfl ?_
        obtain ⟨rfl, rfl⟩ := x_ret h
        exact x_iret C dX9_next_120
      · replace h := x_itp hc h
        refine x_iload_n C 3 dX9_next_114 rfl rfl ?_
        refine x_goto C 120 dX9_next_115 rfl ?_
        obtain ⟨rfl, rfl⟩ := x_ret h
        exact x_iret C dX9_next_120
    · replace h := x_itn hc h
      refine x_aload_n C 0 dX9_next_45 rfl rfl ?_
      obtain ⟨v4, σ4, hc4, h⟩ := x_b_some h
      refine x_callV C (n := 0) (c_X9_isAwake hG hc4) kM_0 (by decide) rfl wd_1605 wd_1607 wd_81 wd_111 wd_1608 (by decide +kernel) rfl ⟨Nat.le_of_ble_eq_true rfl, Nat.le_of_ble_eq_true rfl⟩ ⟨rfl, rfl⟩ rfl (Nat.le_of_ble_eq_true rfl) dX9_next_46 ?_
      refine x_if_eq C 110 dX9_next_49 rfl (fun hc => ?_) (fun hc => ?_)
      · replace h := x_itp hc h
        refine x_iload_n C 2 dX9_next_110 rfl rfl ?_
        refine x_if_ne C 118 dX9_next_111 rfl (fun hc => ?_) (fun hc => ?_)
        · replace h := x_itn hc h
          refine x_iload C 4 dX9_next_118 rfl ?_
          obtain ⟨rfl, rfl⟩ := x_ret h
          exact x_iret C dX9_next_120
        · replace h := x_itp hc h
          refine x_iload_n C 3 dX9_next_114 rfl rfl ?_
          refine x_goto C 120 dX9_next_115 rfl ?_
          obtain ⟨rfl, rfl⟩ := x_ret h
          exact x_iret C dX9_next_120
      · replace h := x_itn hc h
        refine x_iload C 5 dX9_next_52 rfl ?_
        refine x_aload_n C 0 dX9_next_54 rfl rfl ?_
        refine x_getRq C (k := 48) kM_0 (by decide) rfl x_in9 (by decide) (by decide) rfl rfl wd_1256 rfM_0_48 dX9_next_55 ?_
        refine x_iconst C (4 : Int32) dX9_next_58 (by decide) ?_
        refine x_ialdJ C kM_31 (x_inl lnM_31 (by decide)) (j := 4) (by decide) dX9_next_59 ?_
        refine x_icmp_ne C 66 dX9_next_60 rfl (fun hc => ?_) (fun hc => ?_)
        · replace h := x_itn hc h
          refine x_aload_n C 0 dX9_next_66 rfl rfl ?_
          obtain ⟨v5, σ5, hc5, h⟩ := x_b_some h
          refine x_callV C (n := 0) (c_X9_copies hG hc5) kM_0 (by decide) rfl wd_1546 wd_1548 wd_70 wd_111 wd_1549 (by decide +kernel) rfl ⟨Nat.le_of_ble_eq_true rfl, Nat.le_of_ble_eq_true rfl⟩ ⟨rfl, rfl⟩ rfl (Nat.le_of_ble_eq_true rfl) dX9_next_67 ?_
          refine x_aload_n C 0 dX9_next_70 rfl rfl ?_
          refine x_iload C 5 dX9_next_71 rfl ?_
          obtain ⟨v6, σ6, hc6, h⟩ := x_b_some h
          refine x_callV C (n := 1) (c_X9_hands hG hc6) kM_0 (by decide) rfl wd_1609 wd_1611 wd_82 wd_111 wd_1612 (by decide +kernel) rfl ⟨Nat.le_of_ble_eq_true rfl, Nat.le_of_ble_eq_true rfl⟩ ⟨rfl, rfl⟩ rfl (Nat.le_of_ble_eq_true rfl) dX9_next_73 ?_
          refine x_aload_n C 0 dX9_next_76 rfl rfl ?_
          refine x_iload_n C 1 dX9_next_77 rfl rfl ?_
          obtain ⟨v7, σ7, hc7, h⟩ := x_b_some h
          refine x_callV C (n := 1) (c_X9_cries hG hc7) kM_0 (by decide) rfl wd_1645 wd_1647 wd_85 wd_111 wd_1648 (by decide +kernel) rfl ⟨Nat.le_of_ble_eq_true rfl, Nat.le_of_ble_eq_true rfl⟩ ⟨rfl, rfl⟩ rfl (Nat.le_of_ble_eq_true rfl) dX9_next_78 ?_
          refine x_istore C [(6, .int v7), (0, .ref (x_ad G 0)), (1, .int x1), (2, .int x2), (3, .int x3), (4, .int x4), (5, .int x5)] dX9_next_81 (by decide) rfl ?_
          refine x_iload_n C 4 dX9_next_83 rfl rfl ?_
          refine x_if_lt C 97 dX9_next_84 rfl (fun hc => ?_) (fun hc => ?_)
          · replace h := x_itp hc h
            exact x_sub [1, 2, 3, 6, 0] rfl (w_X9_next_97 C ih x1 x2 x5 v7 σ7 h)
          · replace h := x_itn hc h
            refine x_iload C 0 dX9_next_87 rfl ?_
            refine x_iload C 5 dX9_next_89 rfl ?_
            refine x_icmp_lt C 97 dX9_next_91 rfl (fun hc => ?_) (fun hc => ?_)
            · replace h := x_itp hc h
              exact x_sub [1, 2, 3, 6, 0] rfl (w_X9_next_97 C ih x1 x2 x5 v7 σ7 h)
            · replace h := x_itn hc h
              refine x_goto C 104 dX9_next_94 rfl ?_
              exact x_sub [1, 2, 3, 4, 5, 6] rfl (w_X9_next_104 C ih x1 x2 x3 x4 x5 σ7 h)
        · replace h := x_itp hc h
          refine x_goto C 104 dX9_next_63 rfl ?_
          exact x_sub [0, 1, 2, 3, 4, 5] rfl (w_X9_next_104 C ih x1 x2 x3 x4 x5 σ4 h)
set_option maxHeartbeats 4000000 in
set_option maxRecDepth 100000 in
theorem c_X9_next (hG : x_OK TM G) {x1 : Int32} {x2 : Int32} {σ τ : x_Hp} {r : Int32} (h : F_X9_next x1 x2 σ = some (r, τ)) : x_M l TM G yX9_next cX9_next 7 (some .int) rm_X9_next [.ref (x_ad G 0), .int x1, .int x2] σ (some (.int r)) τ := by
  refine x_M.of hG (lv := [(0, .ref (x_ad G 0)), (1, .int x1), (2, .int x2)]) (by decide) (Nat.le_of_ble_eq_true rfl) rfl (fun p e s m below meth c C => ?_)
  rw [F_X9_next] at h
  refine x_iload_n C 1 dX9_next_0 rfl rfl ?_
  refine x_iconst C (1 : Int32) dX9_next_1 (by decide) ?_
  refine x_bipush C (120 : Int32) dX9_next_2 (by decide) ?_
  obtain ⟨v1, σ1, hc1, h⟩ := x_b_some h
  refine x_callS C (n := 3) (c_X9_in hG hc1) wd_1531 wd_1532 wd_111 wd_1533 (by decide +kernel) rfl ⟨Nat.le_of_ble_eq_true rfl, Nat.le_of_ble_eq_true rfl⟩ ⟨rfl, rfl⟩ rfl (Nat.le_of_ble_eq_true rfl) dX9_next_4 ?_
  refine x_if_eq C 19 dX9_next_7 rfl (fun hc => ?_) (fun hc => ?_)
  · replace h := x_itp hc h
    refine x_iconst C (-1 : Int32) dX9_next_19 (by decide) ?_
    obtain ⟨rfl, rfl⟩ := x_ret h
    exact x_iret C dX9_next_20
  · replace h := x_itn hc h
    refine x_iload_n C 2 dX9_next_10 rfl rfl ?_
    refine x_iconst C (0 : Int32) dX9_next_11 (by decide) ?_
    refine x_iconst C (1 : Int32) dX9_next_12 (by decide) ?_
    obtain ⟨v2, σ2, hc2, h⟩ := x_b_some h
    refine x_callS C (n := 3) (c_X9_in hG hc2) wd_1531 wd_1532 wd_111 wd_1533 (by decide +kernel) rfl ⟨Nat.le_of_ble_eq_true rfl, Nat.le_of_ble_eq_true rfl⟩ ⟨rfl, rfl⟩ rfl (Nat.le_of_ble_eq_true rfl) dX9_next_13 ?_
    refine x_if_ne C 21 dX9_next_16 rfl (fun hc => ?_) (fun hc => ?_)
    · replace h := x_itn hc h
      refine x_bipush C (-2 : Int32) dX9_next_21 (by decide) ?_
      refine x_istore_n C [(3, .int (-2 : Int32)), (0, .ref (x_ad G 0)), (1, .int x1), (2, .int x2)] dX9_next_23 rfl (by decide) rfl ?_
      refine x_bipush C (-2 : Int32) dX9_next_24 (by decide) ?_
      refine x_istore C [(4, .int (-2 : Int32)), (3, .int (-2 : Int32)), (0, .ref (x_ad G 0)), (1, .int x1), (2, .int x2)] dX9_next_26 (by decide) rfl ?_
      refine x_iconst C (0 : Int32) dX9_next_28 (by decide) ?_
      refine x_istore C [(5, .int (0 : Int32)), (4, .int (-2 : Int32)), (3, .int (-2 : Int32)), (0, .ref (x_ad G 0)), (1, .int x1), (2, .int x2)] dX9_next_29 (by decide) rfl ?_
      exact x_sub [3, 4, 5, 2, 1, 0] rfl (w_X9_next_31 C x_fuel x1 x2 (-2 : Int32) (-2 : Int32) (0 : Int32) σ2 h)
    · replace h := x_itp hc h
      refine x_iconst C (-1 : Int32) dX9_next_19 (by decide) ?_
      obtain ⟨rfl, rfl⟩ := x_ret h
      exact x_iret C dX9_next_20
abbrev rm_X9_gives : Room := { frames := 5, cells := 0, slots := 0, locals := 119 }
set_option maxHeartbeats 4000000 in
set_option maxRecDepth 100000 in
theorem w_X9_gives_67 {τ : x_Hp} (C : x_C p s m args meth c cX9_gives 6 none yX9_gives.cls TM G) {k39 : Int32 → Int32 → Int32 → Int32 → x_Hp → Option (Unit × x_Hp)} (hk39 : ∀ (x1 : Int32) (x3 : Int32) (x4 : Int32) (x5 : Int32) (σ : x_Hp) (h : k39 x1 x3 x4 x5 σ = some ((), τ)), x_W p l e rm_X9_gives s m args below meth c (MQ below (x_Q TM G none τ) args s 0 0 (x_A TM G)) TM G 6 39 [(0, .ref (x_ad G 0)), (1, .int x1), (3, .int x3), (4, .int x4), (5, .int x5)] [] σ) (x1 : Int32) (x3 : Int32) (x4 : Int32) (x5 : Int32) (σ : x_Hp) (h : F_X9_gives_67 k39 x1 x3 x4 x5 σ = some ((), τ)) : x_W p l e rm_X9_gives s m args below meth c (MQ below (x_Q TM G none τ) args s 0 0 (x_A TM G)) TM G 6 67 [(0, .ref (x_ad G 0)), (1, .int x1), (3, .int x3), (4, .int x4), (5, .int x5)] [] σ := by
  have hG : x_OK TM G := C.2.2.2.2.2.2.2.2.1
  rw [F_X9_gives_67] at h
  refine x_aload_n C 0 dX9_gives_67 rfl rfl ?_
  obtain ⟨v12, σ12, hc12, h⟩ := x_b_some h
  refine x_callV C (n := 0) (c_X9_minuteGoes hG hc12) kM_0 (by decide) rfl wd_1573 wd_1575 wd_75 wd_111 wd_1576 (by decide +kernel) rfl ⟨Nat.le_of_ble_eq_true rfl, Nat.le_of_ble_eq_true rfl⟩ ⟨rfl, rfl⟩ rfl (Nat.le_of_ble_eq_true rfl) dX9_gives_68 ?_
  refine x_aload_n C 0 dX9_gives_71 rfl rfl ?_
  refine x_getRq C (k := 49) kM_0 (by decide) rfl x_in9 (by decide) (by decide) rfl rfl wd_1257 rfM_0_49 dX9_gives_72 ?_
  refine x_bipush C (7 : Int32) dX9_gives_75 (by decide) ?_
  refine x_ialdJ C kM_32 (x_inl lnM_32 (by decide)) (j := 7) (by decide) dX9_gives_77 ?_
  refine x_if_le C 39 dX9_gives_78 rfl (fun hc => ?_) (fun hc => ?_)
  · replace h := x_itp hc h
    exact x_sub [0, 1, 2, 3, 4] rfl (hk39 x1 x3 x4 x5 σ12 h)
  · replace h := x_itn hc h
    refine x_aload_n C 0 dX9_gives_81 rfl rfl ?_
    refine x_getI C (k := 57) kM_0 (by decide) rfl x_in9 (by decide) (by decide) rfl rfl wd_1265 dX9_gives_82 ?_
    refine x_if_ge C 39 dX9_gives_85 rfl (fun hc => ?_) (fun hc => ?_)
    · replace h := x_itp hc h
      exact x_sub [0, 1, 2, 3, 4] rfl (hk39 x1 x3 x4 x5 σ12 h)
    · replace h := x_itn hc h
      refine x_aload_n C 0 dX9_gives_88 rfl rfl ?_
      refine x_iload_n C 1 dX9_gives_89 rfl rfl ?_
      refine x_putI C (k := 57) tyX9 kM_0 (by decide) rfl x_in9 tyX9_ok nmX9 (by decide) (by decide) rfl rfl wd_1265 rfl (tyX9_ok 57 (by decide)) rfl rfl dX9_gives_90 (x_gen h fun σ13 h => ?_)
      refine x_goto C 39 dX9_gives_93 rfl ?_
      exact x_sub [0, 1, 2, 3, 4] rfl (hk39 x1 x3 x4 x5 σ13 h)
set_option maxHeartbeats 4000000 in
set_option maxRecDepth 100000 in
theorem w_X9_gives_54 {τ : x_Hp} (C : x_C p s m args meth c cX9_gives 6 none yX9_gives.cls TM G) {k39 : Int32 → Int32 → Int32 → Int32 → x_Hp → Option (Unit × x_Hp)} (hk39 : ∀ (x1 : Int32) (x3 : Int32) (x4 : Int32) (x5 : Int32) (σ : x_Hp) (h : k39 x1 x3 x4 x5 σ = some ((), τ)), x_W p l e rm_X9_gives s m args below meth c (MQ below (x_Q TM G none τ) args s 0 0 (x_A TM G)) TM G 6 39 [(0, .ref (x_ad G 0)), (1, .int x1), (3, .int x3), (4, .int x4), (5, .int x5)] [] σ) (x1 : Int32) (x3 : Int32) (x4 : Int32) (x5 : Int32) (σ : x_Hp) (h : F_X9_gives_54 k39 x1 x3 x4 x5 σ = some ((), τ)) : x_W p l e rm_X9_gives s m args below meth c (MQ below (x_Q TM G none τ) args s 0 0 (x_A TM G)) TM G 6 54 [(0, .ref (x_ad G 0)), (1, .int x1), (3, .int x3), (4, .int x4), (5, .int x5)] [] σ := by
  have hG : x_OK TM G := C.2.2.2.2.2.2.2.2.1
  rw [F_X9_gives_54] at h
  refine x_aload_n C 0 dX9_gives_54 rfl rfl ?_
  refine x_getRq C (k := 49) kM_0 (by decide) rfl x_in9 (by decide) (by decide) rfl rfl wd_1257 rfM_0_49 dX9_gives_55 ?_
  refine x_bipush C (7 : Int32) dX9_gives_58 (by decide) ?_
  refine x_ialdJ C kM_32 (x_inl lnM_32 (by decide)) (j := 7) (by decide) dX9_gives_60 ?_
  refine x_if_ne C 67 dX9_gives_61 rfl (fun hc => ?_) (fun hc => ?_)
  · replace h := x_itn hc h
    exact x_sub [0, 1, 2, 3, 4] rfl (w_X9_gives_67 C hk39 x1 x3 x4 x5 σ h)
  · replace h := x_itp hc h
    refine x_iinc C 4 (x5 + (-1 : Int32)) [(5, .int (x5 + (-1 : Int32))), (0, .ref (x_ad G 0)), (1, .int x1), (3, .int x3), (4, .int x4)] dX9_gives_64 rfl rfl (by decide) rfl ?_
    exact x_sub [1, 2, 3, 4, 0] rfl (w_X9_gives_67 C hk39 x1 x3 x4 (x5 + (-1 : Int32)) σ h)
set_option maxHeartbeats 4000000 in
set_option maxRecDepth 100000 in
theorem w_X9_gives_39 {τ : x_Hp} (C : x_C p s m args meth c cX9_gives 6 none yX9_gives.cls TM G) : ∀ (n : Nat) (x1 : Int32) (x3 : Int32) (x4 : Int32) (x5 : Int32) (σ : x_Hp) (h : F_X9_gives_39 n x1 x3 x4 x5 σ = some ((), τ)), x_W p l e rm_X9_gives s m args below meth c (MQ below (x_Q TM G none τ) args s 0 0 (x_A TM G)) TM G 6 39 [(0, .ref (x_ad G 0)), (1, .int x1), (3, .int x3), (4, .int x4), (5, .int x5)] [] σ := by
  intro n
  induction n with
  | zero => intro x1 x3 x4 x5 σ  h; cases h
  | succ n ih =>
    intro x1 x3 x4 x5 σ  h
    have hG : x_OK TM G := C.2.2.2.2.2.2.2.2.1
    rw [F_X9_gives_39] at h
    refine x_iload C 4 dX9_gives_39 rfl ?_
    refine x_if_gt C 54 dX9_gives_41 rfl (fun hc => ?_) (fun hc => ?_)
    · replace h := x_itp hc h
      exact x_sub [0, 1, 2, 3, 4] rfl (w_X9_gives_54 C ih x1 x3 x4 x5 σ h)
    · replace h := x_itn hc h
      refine x_aload_n C 0 dX9_gives_44 rfl rfl ?_
      refine x_getRq C (k := 49) kM_0 (by decide) rfl x_in9 (by decide) (by decide) rfl rfl wd_1257 rfM_0_49 dX9_gives_45 ?_
      refine x_bipush C (7 : Int32) dX9_gives_48 (by decide) ?_
      refine x_ialdJ C kM_32 (x_inl lnM_32 (by decide)) (j := 7) (by decide) dX9_gives_50 ?_
      refine x_if_le C 96 dX9_gives_51 rfl (fun hc => ?_) (fun hc => ?_)
      · replace h := x_itp hc h
        refine x_aload_n C 0 dX9_gives_96 rfl rfl ?_
        refine x_getRq C (k := 58) kM_0 (by decide) rfl x_in9 (by decide) (by decide) rfl rfl wd_1266 rfM_0_58 dX9_gives_97 ?_
        refine x_iload_n C 1 dX9_gives_100 rfl rfl ?_
        refine x_aload_n C 0 dX9_gives_101 rfl rfl ?_
        refine x_getRq C (k := 49) kM_0 (by decide) rfl x_in9 (by decide) (by decide) rfl rfl wd_1257 rfM_0_49 dX9_gives_102 ?_
        refine x_bipush C (26 : Int32) dX9_gives_105 (by decide) ?_
        refine x_iload_n C 1 dX9_gives_107 rfl rfl ?_
        refine x_iadd C dX9_gives_108 ?_
        obtain ⟨hi4, h⟩ := x_gd_some h
        refine x_iald C kM_32 (x_inl lnM_32 hi4) dX9_gives_109 ?_
        refine x_iload_n C 2 dX9_gives_110 rfl rfl ?_
        refine x_isub C dX9_gives_111 ?_
        obtain ⟨hi5, h⟩ := x_gd_some h
        refine x_iast C kM_35 (x_inl lnM_35 hi5) dX9_gives_112 (x_gen h fun σ6 h => ?_)
        refine x_aload_n C 0 dX9_gives_113 rfl rfl ?_
        refine x_getRq C (k := 59) kM_0 (by decide) rfl x_in9 (by decide) (by decide) rfl rfl wd_1267 rfM_0_59 dX9_gives_114 ?_
        refine x_iload_n C 1 dX9_gives_117 rfl rfl ?_
        refine x_aload_n C 0 dX9_gives_118 rfl rfl ?_
        refine x_getRq C (k := 49) kM_0 (by decide) rfl x_in9 (by decide) (by decide) rfl rfl wd_1257 rfM_0_49 dX9_gives_119 ?_
        refine x_bipush C (32 : Int32) dX9_gives_122 (by decide) ?_
        refine x_iload_n C 1 dX9_gives_124 rfl rfl ?_
        refine x_iadd C dX9_gives_125 ?_
        obtain ⟨hi7, h⟩ := x_gd_some h
        refine x_iald C kM_32 (x_inl lnM_32 hi7) dX9_gives_126 ?_
        refine x_iload C 3 dX9_gives_127 rfl ?_
        refine x_isub C dX9_gives_129 ?_
        obtain ⟨hi8, h⟩ := x_gd_some h
        refine x_iast C kM_36 (x_inl lnM_36 hi8) dX9_gives_130 (x_gen h fun σ9 h => ?_)
        refine x_aload_n C 0 dX9_gives_131 rfl rfl ?_
        refine x_dup C dX9_gives_132 rfl ?_
        refine x_getI C (k := 56) kM_0 (by decide) rfl x_in9 (by decide) (by decide) rfl rfl wd_1264 dX9_gives_133 ?_
        refine x_aload_n C 0 dX9_gives_136 rfl rfl ?_
        refine x_getRq C (k := 58) kM_0 (by decide) rfl x_in9 (by decide) (by decide) rfl rfl wd_1266 rfM_0_58 dX9_gives_137 ?_
        refine x_iload_n C 1 dX9_gives_140 rfl rfl ?_
        obtain ⟨hi10, h⟩ := x_gd_some h
        refine x_iald C kM_35 (x_inl lnM_35 hi10) dX9_gives_141 ?_
        refine x_iadd C dX9_gives_142 ?_
        refine x_putI C (k := 56) tyX9 kM_0 (by decide) rfl x_in9 tyX9_ok nmX9 (by decide) (by decide) rfl rfl wd_1264 rfl (tyX9_ok 56 (by decide)) rfl rfl dX9_gives_143 (x_gen h fun σ11 h => ?_)
        obtain ⟨-, rfl⟩ := x_ret h
        exact x_vret C dX9_gives_146
      · replace h := x_itn hc h
        exact x_sub [0, 1, 2, 3, 4] rfl (w_X9_gives_54 C ih x1 x3 x4 x5 σ h)
set_option maxHeartbeats 4000000 in
set_option maxRecDepth 100000 in
theorem w_X9_gives_15 {τ : x_Hp} (C : x_C p s m args meth c cX9_gives 6 none yX9_gives.cls TM G) (x1 : Int32) (x2 : Int32) (σ : x_Hp) (h : F_X9_gives_15 x1 x2 σ = some ((), τ)) : x_W p l e rm_X9_gives s m args below meth c (MQ below (x_Q TM G none τ) args s 0 0 (x_A TM G)) TM G 6 15 [(0, .ref (x_ad G 0)), (1, .int x1), (2, .int x2)] [] σ := by
  have hG : x_OK TM G := C.2.2.2.2.2.2.2.2.1
  rw [F_X9_gives_15] at h
  refine x_aload_n C 0 dX9_gives_15 rfl rfl ?_
  refine x_getRq C (k := 49) kM_0 (by decide) rfl x_in9 (by decide) (by decide) rfl rfl wd_1257 rfM_0_49 dX9_gives_16 ?_
  refine x_bipush C (26 : Int32) dX9_gives_19 (by decide) ?_
  refine x_iload_n C 1 dX9_gives_21 rfl rfl ?_
  refine x_iadd C dX9_gives_22 ?_
  obtain ⟨hi2, h⟩ := x_gd_some h
  refine x_iald C kM_32 (x_inl lnM_32 hi2) dX9_gives_23 ?_
  refine x_istore_n C [(3, .int (σ.1 32 (x_ix ((26 : Int32) + x1)))), (0, .ref (x_ad G 0)), (1, .int x1), (2, .int x2)] dX9_gives_24 rfl (by decide) rfl ?_
  refine x_aload_n C 1 dX9_gives_25 rfl rfl ?_
  refine x_getRq C (k := 49) kM_0 (by decide) rfl x_in9 (by decide) (by decide) rfl rfl wd_1257 rfM_0_49 dX9_gives_26 ?_
  refine x_bipush C (32 : Int32) dX9_gives_29 (by decide) ?_
  refine x_iload_n C 2 dX9_gives_31 rfl rfl ?_
  refine x_iadd C dX9_gives_32 ?_
  obtain ⟨hi3, h⟩ := x_gd_some h
  refine x_iald C kM_32 (x_inl lnM_32 hi3) dX9_gives_33 ?_
  refine x_istore C [(4, .int (σ.1 32 (x_ix ((32 : Int32) + x1)))), (3, .int (σ.1 32 (x_ix ((26 : Int32) + x1)))), (0, .ref (x_ad G 0)), (1, .int x1), (2, .int x2)] dX9_gives_34 (by decide) rfl ?_
  refine x_iload_n C 4 dX9_gives_36 rfl rfl ?_
  refine x_istore C [(5, .int x2), (4, .int (σ.1 32 (x_ix ((32 : Int32) + x1)))), (3, .int (σ.1 32 (x_ix ((26 : Int32) + x1)))), (0, .ref (x_ad G 0)), (1, .int x1), (2, .int x2)] dX9_gives_37 (by decide) rfl ?_
  exact x_sub [3, 4, 2, 1, 0] rfl (w_X9_gives_39 C x_fuel x1 (σ.1 32 (x_ix ((26 : Int32) + x1))) (σ.1 32 (x_ix ((32 : Int32) + x1))) x2 σ h)
set_option maxHeartbeats 4000000 in
set_option maxRecDepth 100000 in
theorem c_X9_gives (hG : x_OK TM G) {x1 : Int32} {x2 : Int32} {σ τ : x_Hp} (h : F_X9_gives x1 x2 σ = some ((), τ)) : x_M l TM G yX9_gives cX9_gives 6 none rm_X9_gives [.ref (x_ad G 0), .int x1, .int x2] σ none τ := by
  refine x_M.of hG (lv := [(0, .ref (x_ad G 0)), (1, .int x1), (2, .int x2)]) (by decide) (Nat.le_of_ble_eq_true rfl) rfl (fun p e s m below meth c C => ?_)
  rw [F_X9_gives] at h
  refine x_aload_n C 0 dX9_gives_0 rfl rfl ?_
  refine x_getRq C (k := 49) kM_0 (by decide) rfl x_in9 (by decide) (by decide) rfl rfl wd_1257 rfM_0_49 dX9_gives_1 ?_
  refine x_iconst C (4 : Int32) dX9_gives_4 (by decide) ?_
  refine x_ialdJ C kM_32 (x_inl lnM_32 (by decide)) (j := 4) (by decide) dX9_gives_5 ?_
  refine x_iload_n C 1 dX9_gives_6 rfl rfl ?_
  refine x_icmp_eq C 15 dX9_gives_7 rfl (fun hc => ?_) (fun hc => ?_)
  · replace h := x_itp hc h
    exact x_sub [0, 1, 2] rfl (w_X9_gives_15 C x1 x2 σ h)
  · replace h := x_itn hc h
    refine x_aload_n C 0 dX9_gives_10 rfl rfl ?_
    refine x_iload_n C 1 dX9_gives_11 rfl rfl ?_
    obtain ⟨v1, σ1, hc1, h⟩ := x_b_some h
    refine x_callV C (n := 1) (c_X9_hands hG hc1) kM_0 (by decide) rfl wd_1609 wd_1611 wd_82 wd_111 wd_1612 (by decide +kernel) rfl ⟨Nat.le_of_ble_eq_true rfl, Nat.le_of_ble_eq_true rfl⟩ ⟨rfl, rfl⟩ rfl (Nat.le_of_ble_eq_true rfl) dX9_gives_12 ?_
    exact x_sub [0, 1, 2] rfl (w_X9_gives_15 C x1 x2 σ1 h)
abbrev rm_X9_starts : Room := { frames := 2, cells := 0, slots := 0, locals := 41 }
set_option maxHeartbeats 4000000 in
set_option maxRecDepth 100000 in
theorem c_X9_starts (hG : x_OK TM G) {σ τ : x_Hp} (h : F_X9_starts σ = some ((), τ)) : x_M l TM G yX9_starts cX9_starts 1 none rm_X9_starts [.ref (x_ad G 0)] σ none τ := by
  refine x_M.of hG (lv := [(0, .ref (x_ad G 0))]) (by decide) (Nat.le_of_ble_eq_true rfl) rfl (fun p e s m below meth c C => ?_)
  rw [F_X9_starts] at h
  refine x_aload_n C 0 dX9_starts_0 rfl rfl ?_
  obtain ⟨v1, σ1, hc1, h⟩ := x_b_some h
  refine x_callV C (n := 0) (c_X9_copies hG hc1) kM_0 (by decide) rfl wd_1546 wd_1548 wd_70 wd_111 wd_1549 (by decide +kernel) rfl ⟨Nat.le_of_ble_eq_true rfl, Nat.le_of_ble_eq_true rfl⟩ ⟨rfl, rfl⟩ rfl (Nat.le_of_ble_eq_true rfl) dX9_starts_1 ?_
  refine x_aload_n C 0 dX9_starts_4 rfl rfl ?_
  refine x_iconst C (0 : Int32) dX9_starts_5 (by decide) ?_
  refine x_putI C (k := 56) tyX9 kM_0 (by decide) rfl x_in9 tyX9_ok nmX9 (by decide) (by decide) rfl rfl wd_1264 rfl (tyX9_ok 56 (by decide)) rfl rfl dX9_starts_6 (x_gen h fun σ2 h => ?_)
  refine x_aload_n C 0 dX9_starts_9 rfl rfl ?_
  refine x_bipush C (-2 : Int32) dX9_starts_10 (by decide) ?_
  refine x_putI C (k := 57) tyX9 kM_0 (by decide) rfl x_in9 tyX9_ok nmX9 (by decide) (by decide) rfl rfl wd_1265 rfl (tyX9_ok 57 (by decide)) rfl rfl dX9_starts_12 (x_gen h fun σ3 h => ?_)
  obtain ⟨-, rfl⟩ := x_ret h
  exact x_vret C dX9_starts_15
abbrev rm_X9_firstOrder : Room := { frames := 0, cells := 0, slots := 0, locals := 0 }
set_option maxHeartbeats 4000000 in
set_option maxRecDepth 100000 in
theorem w_X9_firstOrder_2 {τ : x_Hp} (C : x_C p s m args meth c cX9_firstOrder 2 none yX9_firstOrder.cls TM G) : ∀ (n : Nat) (x1 : Int32) (σ : x_Hp) (h : F_X9_firstOrder_2 n x1 σ = some ((), τ)), x_W p l e rm_X9_firstOrder s m args below meth c (MQ below (x_Q TM G none τ) args s 0 0 (x_A TM G)) TM G 2 2 [(0, .ref (x_ad G 0)), (1, .int x1)] [] σ := by
  intro n
  induction n with
  | zero => intro x1 σ  h; cases h
  | succ n ih =>
    intro x1 σ  h
    have hG : x_OK TM G := C.2.2.2.2.2.2.2.2.1
    rw [F_X9_firstOrder_2] at h
    refine x_iload_n C 1 dX9_firstOrder_2 rfl rfl ?_
    refine x_bipush C (6 : Int32) dX9_firstOrder_3 (by decide) ?_
    refine x_icmp_ge C 21 dX9_firstOrder_5 rfl (fun hc => ?_) (fun hc => ?_)
    · replace h := x_itp hc h
      obtain ⟨-, rfl⟩ := x_ret h
      exact x_vret C dX9_firstOrder_21
    · replace h := x_itn hc h
      refine x_aload_n C 0 dX9_firstOrder_8 rfl rfl ?_
      refine x_getRq C (k := 60) kM_0 (by decide) rfl x_in9 (by decide) (by decide) rfl rfl wd_1268 rfM_0_60 dX9_firstOrder_9 ?_
      refine x_iload_n C 1 dX9_firstOrder_12 rfl rfl ?_
      refine x_iload_n C 1 dX9_firstOrder_13 rfl rfl ?_
      obtain ⟨hi1, h⟩ := x_gd_some h
      refine x_iast C kM_37 (x_inl lnM_37 hi1) dX9_firstOrder_14 (x_gen h fun σ2 h => ?_)
      refine x_iinc C 1 (x1 + (1 : Int32)) [(1, .int (x1 + (1 : Int32))), (0, .ref (x_ad G 0))] dX9_firstOrder_15 rfl rfl (by decide) rfl ?_
      refine x_goto C 2 dX9_firstOrder_18 rfl ?_
      exact x_sub [1, 0] rfl (ih (x1 + (1 : Int32)) σ2 h)
set_option maxHeartbeats 4000000 in
set_option maxRecDepth 100000 in
theorem c_X9_firstOrder (hG : x_OK TM G) {σ τ : x_Hp} (h : F_X9_firstOrder σ = some ((), τ)) : x_M l TM G yX9_firstOrder cX9_firstOrder 2 none rm_X9_firstOrder [.ref (x_ad G 0)] σ none τ := by
  refine x_M.of hG (lv := [(0, .ref (x_ad G 0))]) (by decide) (Nat.le_of_ble_eq_true rfl) rfl (fun p e s m below meth c C => ?_)
  rw [F_X9_firstOrder] at h
  refine x_iconst C (0 : Int32) dX9_firstOrder_0 (by decide) ?_
  refine x_istore_n C [(1, .int (0 : Int32)), (0, .ref (x_ad G 0))] dX9_firstOrder_1 rfl (by decide) rfl ?_
  exact x_sub [1, 0] rfl (w_X9_firstOrder_2 C x_fuel (0 : Int32) σ h)
abbrev rm_X9_nextOrder : Room := { frames := 0, cells := 0, slots := 0, locals := 0 }
set_option maxHeartbeats 4000000 in
set_option maxRecDepth 100000 in
theorem w_X9_nextOrder_110 {r : Int32} {τ : x_Hp} (C : x_C p s m args meth c cX9_nextOrder 7 (some .boolean) yX9_nextOrder.cls TM G) : ∀ (n : Nat) (x5 : Int32) (x6 : Int32) (σ : x_Hp) (h : F_X9_nextOrder_110 n x5 x6 σ = some (r, τ)), x_W p l e rm_X9_nextOrder s m args below meth c (MQ below (x_Q TM G (some (.int r)) τ) args s 0 0 (x_A TM G)) TM G 7 110 [(0, .ref (x_ad G 0)), (5, .int x5), (6, .int x6)] [] σ := by
  intro n
  induction n with
  | zero => intro x5 x6 σ  h; cases h
  | succ n ih =>
    intro x5 x6 σ  h
    have hG : x_OK TM G := C.2.2.2.2.2.2.2.2.1
    rw [F_X9_nextOrder_110] at h
    refine x_iload C 1 dX9_nextOrder_110 rfl ?_
    refine x_iload C 2 dX9_nextOrder_112 rfl ?_
    refine x_icmp_ge C 158 dX9_nextOrder_114 rfl (fun hc => ?_) (fun hc => ?_)
    · replace h := x_itp hc h
      refine x_iconst C (1 : Int32) dX9_nextOrder_158 (by decide) ?_
      obtain ⟨rfl, rfl⟩ := x_ret h
      exact x_zret C rfl dX9_nextOrder_159
    · replace h := x_itn hc h
      refine x_aload_n C 0 dX9_nextOrder_117 rfl rfl ?_
      refine x_getRq C (k := 60) kM_0 (by decide) rfl x_in9 (by decide) (by decide) rfl rfl wd_1268 rfM_0_60 dX9_nextOrder_118 ?_
      refine x_iload C 1 dX9_nextOrder_121 rfl ?_
      obtain ⟨hi12, h⟩ := x_gd_some h
      refine x_iald C kM_37 (x_inl lnM_37 hi12) dX9_nextOrder_123 ?_
      refine x_istore C [(4, .int (σ.1 37 (x_ix x5))), (0, .ref (x_ad G 0)), (5, .int x5), (6, .int x6)] dX9_nextOrder_124 (by decide) rfl ?_
      refine x_aload_n C 1 dX9_nextOrder_126 rfl rfl ?_
      refine x_getRq C (k := 60) kM_0 (by decide) rfl x_in9 (by decide) (by decide) rfl rfl wd_1268 rfM_0_60 dX9_nextOrder_127 ?_
      refine x_iload C 2 dX9_nextOrder_130 rfl ?_
      refine x_aload_n C 1 dX9_nextOrder_132 rfl rfl ?_
      refine x_getRq C (k := 60) kM_0 (by decide) rfl x_in9 (by decide) (by decide) rfl rfl wd_1268 rfM_0_60 dX9_nextOrder_133 ?_
      refine x_iload C 3 dX9_nextOrder_136 rfl ?_
      obtain ⟨hi13, h⟩ := x_gd_some h
      refine x_iald C kM_37 (x_inl lnM_37 hi13) dX9_nextOrder_138 ?_
      obtain ⟨hi14, h⟩ := x_gd_some h
      refine x_iast C kM_37 (x_inl lnM_37 hi14) dX9_nextOrder_139 (x_gen h fun σ15 h => ?_)
      refine x_aload_n C 1 dX9_nextOrder_140 rfl rfl ?_
      refine x_getRq C (k := 60) kM_0 (by decide) rfl x_in9 (by decide) (by decide) rfl rfl wd_1268 rfM_0_60 dX9_nextOrder_141 ?_
      refine x_iload C 3 dX9_nextOrder_144 rfl ?_
      refine x_iload C 0 dX9_nextOrder_146 rfl ?_
      obtain ⟨hi16, h⟩ := x_gd_some h
      refine x_iast C kM_37 (x_inl lnM_37 hi16) dX9_nextOrder_148 (x_gen h fun σ17 h => ?_)
      refine x_iinc C 2 (x5 + (1 : Int32)) [(5, .int (x5 + (1 : Int32))), (4, .int (σ.1 37 (x_ix x5))), (0, .ref (x_ad G 0)), (6, .int x6)] dX9_nextOrder_149 rfl rfl (by decide) rfl ?_
      refine x_iinc C 3 (x6 + (-1 : Int32)) [(6, .int (x6 + (-1 : Int32))), (5, .int (x5 + (1 : Int32))), (4, .int (σ.1 37 (x_ix x5))), (0, .ref (x_ad G 0))] dX9_nextOrder_152 rfl rfl (by decide) rfl ?_
      refine x_goto C 110 dX9_nextOrder_155 rfl ?_
      exact x_sub [3, 1, 0] rfl (ih (x5 + (1 : Int32)) (x6 + (-1 : Int32)) σ17 h)
set_option maxHeartbeats 4000000 in
set_option maxRecDepth 100000 in
theorem w_X9_nextOrder_51 {r : Int32} {τ : x_Hp} (C : x_C p s m args meth c cX9_nextOrder 7 (some .boolean) yX9_nextOrder.cls TM G) : ∀ (n : Nat) (x1 : Int32) (x2 : Int32) (x3 : Int32) (σ : x_Hp) (h : F_X9_nextOrder_51 n x1 x2 x3 σ = some (r, τ)), x_W p l e rm_X9_nextOrder s m args below meth c (MQ below (x_Q TM G (some (.int r)) τ) args s 0 0 (x_A TM G)) TM G 7 51 [(0, .ref (x_ad G 0)), (1, .int x1), (2, .int x2), (3, .int x3)] [] σ := by
  intro n
  induction n with
  | zero => intro x1 x2 x3 σ  h; cases h
  | succ n ih =>
    intro x1 x2 x3 σ  h
    have hG : x_OK TM G := C.2.2.2.2.2.2.2.2.1
    rw [F_X9_nextOrder_51] at h
    refine x_aload_n C 0 dX9_nextOrder_51 rfl rfl ?_
    refine x_getRq C (k := 60) kM_0 (by decide) rfl x_in9 (by decide) (by decide) rfl rfl wd_1268 rfM_0_60 dX9_nextOrder_52 ?_
    refine x_iload_n C 3 dX9_nextOrder_55 rfl rfl ?_
    obtain ⟨hi4, h⟩ := x_gd_some h
    refine x_iald C kM_37 (x_inl lnM_37 hi4) dX9_nextOrder_56 ?_
    refine x_aload_n C 0 dX9_nextOrder_57 rfl rfl ?_
    refine x_getRq C (k := 60) kM_0 (by decide) rfl x_in9 (by decide) (by decide) rfl rfl wd_1268 rfM_0_60 dX9_nextOrder_58 ?_
    refine x_iload_n C 2 dX9_nextOrder_61 rfl rfl ?_
    obtain ⟨hi5, h⟩ := x_gd_some h
    refine x_iald C kM_37 (x_inl lnM_37 hi5) dX9_nextOrder_62 ?_
    refine x_icmp_ge C 72 dX9_nextOrder_63 rfl (fun hc => ?_) (fun hc => ?_)
    · replace h := x_itp hc h
      refine x_aload_n C 0 dX9_nextOrder_72 rfl rfl ?_
      refine x_getRq C (k := 60) kM_0 (by decide) rfl x_in9 (by decide) (by decide) rfl rfl wd_1268 rfM_0_60 dX9_nextOrder_73 ?_
      refine x_iload_n C 2 dX9_nextOrder_76 rfl rfl ?_
      obtain ⟨hi6, h⟩ := x_gd_some h
      refine x_iald C kM_37 (x_inl lnM_37 hi6) dX9_nextOrder_77 ?_
      refine x_istore C [(4, .int (σ.1 37 (x_ix x2))), (0, .ref (x_ad G 0)), (1, .int x1), (2, .int x2), (3, .int x3)] dX9_nextOrder_78 (by decide) rfl ?_
      refine x_aload_n C 1 dX9_nextOrder_80 rfl rfl ?_
      refine x_getRq C (k := 60) kM_0 (by decide) rfl x_in9 (by decide) (by decide) rfl rfl wd_1268 rfM_0_60 dX9_nextOrder_81 ?_
      refine x_iload_n C 3 dX9_nextOrder_84 rfl rfl ?_
      refine x_aload_n C 1 dX9_nextOrder_85 rfl rfl ?_
      refine x_getRq C (k := 60) kM_0 (by decide) rfl x_in9 (by decide) (by decide) rfl rfl wd_1268 rfM_0_60 dX9_nextOrder_86 ?_
      refine x_iload_n C 4 dX9_nextOrder_89 rfl rfl ?_
      obtain ⟨hi7, h⟩ := x_gd_some h
      refine x_iald C kM_37 (x_inl lnM_37 hi7) dX9_nextOrder_90 ?_
      obtain ⟨hi8, h⟩ := x_gd_some h
      refine x_iast C kM_37 (x_inl lnM_37 hi8) dX9_nextOrder_91 (x_gen h fun σ9 h => ?_)
      refine x_aload_n C 1 dX9_nextOrder_92 rfl rfl ?_
      refine x_getRq C (k := 60) kM_0 (by decide) rfl x_in9 (by decide) (by decide) rfl rfl wd_1268 rfM_0_60 dX9_nextOrder_93 ?_
      refine x_iload_n C 4 dX9_nextOrder_96 rfl rfl ?_
      refine x_iload C 0 dX9_nextOrder_97 rfl ?_
      obtain ⟨hi10, h⟩ := x_gd_some h
      refine x_iast C kM_37 (x_inl lnM_37 hi10) dX9_nextOrder_99 (x_gen h fun σ11 h => ?_)
      refine x_iload_n C 3 dX9_nextOrder_100 rfl rfl ?_
      refine x_iconst C (1 : Int32) dX9_nextOrder_101 (by decide) ?_
      refine x_iadd C dX9_nextOrder_102 ?_
      refine x_istore C [(5, .int (x2 + (1 : Int32))), (4, .int (σ.1 37 (x_ix x2))), (0, .ref (x_ad G 0)), (1, .int x1), (2, .int x2), (3, .int x3)] dX9_nextOrder_103 (by decide) rfl ?_
      refine x_iload_n C 3 dX9_nextOrder_105 rfl rfl ?_
      refine x_iconst C (1 : Int32) dX9_nextOrder_106 (by decide) ?_
      refine x_isub C dX9_nextOrder_107 ?_
      refine x_istore C [(6, .int (x1 - (1 : Int32))), (5, .int (x2 + (1 : Int32))), (4, .int (σ.1 37 (x_ix x2))), (0, .ref (x_ad G 0)), (1, .int x1), (2, .int x2), (3, .int x3)] dX9_nextOrder_108 (by decide) rfl ?_
      exact x_sub [3, 1, 0] rfl (w_X9_nextOrder_110 C x_fuel (x2 + (1 : Int32)) (x1 - (1 : Int32)) σ11 h)
    · replace h := x_itn hc h
      refine x_iinc C 3 (x3 + (-1 : Int32)) [(3, .int (x3 + (-1 : Int32))), (0, .ref (x_ad G 0)), (1, .int x1), (2, .int x2)] dX9_nextOrder_66 rfl rfl (by decide) rfl ?_
      refine x_goto C 51 dX9_nextOrder_69 rfl ?_
      exact x_sub [1, 2, 3, 0] rfl (ih x1 x2 (x3 + (-1 : Int32)) σ h)
set_option maxHeartbeats 4000000 in
set_option maxRecDepth 100000 in
theorem w_X9_nextOrder_41 {r : Int32} {τ : x_Hp} (C : x_C p s m args meth c cX9_nextOrder 7 (some .boolean) yX9_nextOrder.cls TM G) (x1 : Int32) (x2 : Int32) (σ : x_Hp) (h : F_X9_nextOrder_41 x1 x2 σ = some (r, τ)) : x_W p l e rm_X9_nextOrder s m args below meth c (MQ below (x_Q TM G (some (.int r)) τ) args s 0 0 (x_A TM G)) TM G 7 41 [(0, .ref (x_ad G 0)), (1, .int x1), (2, .int x2)] [] σ := by
  have hG : x_OK TM G := C.2.2.2.2.2.2.2.2.1
  rw [F_X9_nextOrder_41] at h
  refine x_iload_n C 2 dX9_nextOrder_41 rfl rfl ?_
  refine x_if_ge C 47 dX9_nextOrder_42 rfl (fun hc => ?_) (fun hc => ?_)
  · replace h := x_itp hc h
    refine x_iload_n C 1 dX9_nextOrder_47 rfl rfl ?_
    refine x_iconst C (1 : Int32) dX9_nextOrder_48 (by decide) ?_
    refine x_isub C dX9_nextOrder_49 ?_
    refine x_istore_n C [(3, .int (x1 - (1 : Int32))), (0, .ref (x_ad G 0)), (1, .int x1), (2, .int x2)] dX9_nextOrder_50 rfl (by decide) rfl ?_
    exact x_sub [1, 2, 3, 0] rfl (w_X9_nextOrder_51 C x_fuel x1 x2 (x1 - (1 : Int32)) σ h)
  · replace h := x_itn hc h
    refine x_iconst C (0 : Int32) dX9_nextOrder_45 (by decide) ?_
    obtain ⟨rfl, rfl⟩ := x_ret h
    exact x_zret C rfl dX9_nextOrder_46
set_option maxHeartbeats 4000000 in
set_option maxRecDepth 100000 in
theorem w_X9_nextOrder_14 {r : Int32} {τ : x_Hp} (C : x_C p s m args meth c cX9_nextOrder 7 (some .boolean) yX9_nextOrder.cls TM G) : ∀ (n : Nat) (x1 : Int32) (x2 : Int32) (σ : x_Hp) (h : F_X9_nextOrder_14 n x1 x2 σ = some (r, τ)), x_W p l e rm_X9_nextOrder s m args below meth c (MQ below (x_Q TM G (some (.int r)) τ) args s 0 0 (x_A TM G)) TM G 7 14 [(0, .ref (x_ad G 0)), (1, .int x1), (2, .int x2)] [] σ := by
  intro n
  induction n with
  | zero => intro x1 x2 σ  h; cases h
  | succ n ih =>
    intro x1 x2 σ  h
    have hG : x_OK TM G := C.2.2.2.2.2.2.2.2.1
    rw [F_X9_nextOrder_14] at h
    refine x_iload_n C 2 dX9_nextOrder_14 rfl rfl ?_
    refine x_if_lt C 41 dX9_nextOrder_15 rfl (fun hc => ?_) (fun hc => ?_)
    · replace h := x_itp hc h
      exact x_sub [0, 1, 2] rfl (w_X9_nextOrder_41 C x1 x2 σ h)
    · replace h := x_itn hc h
      refine x_aload_n C 0 dX9_nextOrder_18 rfl rfl ?_
      refine x_getRq C (k := 60) kM_0 (by decide) rfl x_in9 (by decide) (by decide) rfl rfl wd_1268 rfM_0_60 dX9_nextOrder_19 ?_
      refine x_iload_n C 2 dX9_nextOrder_22 rfl rfl ?_
      obtain ⟨hi2, h⟩ := x_gd_some h
      refine x_iald C kM_37 (x_inl lnM_37 hi2) dX9_nextOrder_23 ?_
      refine x_aload_n C 0 dX9_nextOrder_24 rfl rfl ?_
      refine x_getRq C (k := 60) kM_0 (by decide) rfl x_in9 (by decide) (by decide) rfl rfl wd_1268 rfM_0_60 dX9_nextOrder_25 ?_
      refine x_iload_n C 2 dX9_nextOrder_28 rfl rfl ?_
      refine x_iconst C (1 : Int32) dX9_nextOrder_29 (by decide) ?_
      refine x_iadd C dX9_nextOrder_30 ?_
      obtain ⟨hi3, h⟩ := x_gd_some h
      refine x_iald C kM_37 (x_inl lnM_37 hi3) dX9_nextOrder_31 ?_
      refine x_icmp_le C 41 dX9_nextOrder_32 rfl (fun hc => ?_) (fun hc => ?_)
      · replace h := x_itp hc h
        exact x_sub [0, 1, 2] rfl (w_X9_nextOrder_41 C x1 x2 σ h)
      · replace h := x_itn hc h
        refine x_iinc C 2 (x2 + (-1 : Int32)) [(2, .int (x2 + (-1 : Int32))), (0, .ref (x_ad G 0)), (1, .int x1)] dX9_nextOrder_35 rfl rfl (by decide) rfl ?_
        refine x_goto C 14 dX9_nextOrder_38 rfl ?_
        exact x_sub [1, 2, 0] rfl (ih x1 (x2 + (-1 : Int32)) σ h)
set_option maxHeartbeats 4000000 in
set_option maxRecDepth 100000 in
theorem c_X9_nextOrder (hG : x_OK TM G) {σ τ : x_Hp} {r : Int32} (h : F_X9_nextOrder σ = some (r, τ)) : x_M l TM G yX9_nextOrder cX9_nextOrder 7 (some .boolean) rm_X9_nextOrder [.ref (x_ad G 0)] σ (some (.int r)) τ := by
  refine x_M.of hG (lv := [(0, .ref (x_ad G 0))]) (by decide) (Nat.le_of_ble_eq_true rfl) rfl (fun p e s m below meth c C => ?_)
  rw [F_X9_nextOrder] at h
  refine x_aload_n C 0 dX9_nextOrder_0 rfl rfl ?_
  refine x_getRq C (k := 23) kM_0 (by decide) rfl x_in9 (by decide) (by decide) rfl rfl wd_1231 rfM_0_23 dX9_nextOrder_1 ?_
  refine x_aload_n C 0 dX9_nextOrder_4 rfl rfl ?_
  refine x_getI C (k := 18) kM_0 (by decide) rfl x_in9 (by decide) (by decide) rfl rfl wd_1226 dX9_nextOrder_5 ?_
  obtain ⟨hi1, h⟩ := x_gd_some h
  refine x_iald C kM_10 (x_inl lnM_10 hi1) dX9_nextOrder_8 ?_
  refine x_istore_n C [(1, .int (σ.1 10 (x_ix (σ.1 0 18)))), (0, .ref (x_ad G 0))] dX9_nextOrder_9 rfl (by decide) rfl ?_
  refine x_iload_n C 0 dX9_nextOrder_10 rfl rfl ?_
  refine x_iconst C (2 : Int32) dX9_nextOrder_11 (by decide) ?_
  refine x_isub C dX9_nextOrder_12 ?_
  refine x_istore_n C [(2, .int ((σ.1 10 (x_ix (σ.1 0 18))) - (2 : Int32))), (1, .int (σ.1 10 (x_ix (σ.1 0 18)))), (0, .ref (x_ad G 0))] dX9_nextOrder_13 rfl (by decide) rfl ?_
  exact x_sub [2, 1, 0] rfl (w_X9_nextOrder_14 C x_fuel (σ.1 10 (x_ix (σ.1 0 18))) ((σ.1 10 (x_ix (σ.1 0 18))) - (2 : Int32)) σ h)
abbrev rm_X9_givesAll : Room := { frames := 6, cells := 0, slots := 0, locals := 144 }
set_option maxHeartbeats 4000000 in
set_option maxRecDepth 100000 in
theorem w_X9_givesAll_6 {τ : x_Hp} (C : x_C p s m args meth c cX9_givesAll 3 none yX9_givesAll.cls TM G) : ∀ (n : Nat) (x1 : Int32) (x2 : Int32) (σ : x_Hp) (h : F_X9_givesAll_6 n x1 x2 σ = some ((), τ)), x_W p l e rm_X9_givesAll s m args below meth c (MQ below (x_Q TM G none τ) args s 0 0 (x_A TM G)) TM G 3 6 [(0, .ref (x_ad G 0)), (1, .int x1), (2, .int x2)] [] σ := by
  intro n
  induction n with
  | zero => intro x1 x2 σ  h; cases h
  | succ n ih =>
    intro x1 x2 σ  h
    have hG : x_OK TM G := C.2.2.2.2.2.2.2.2.1
    rw [F_X9_givesAll_6] at h
    refine x_iload_n C 2 dX9_givesAll_6 rfl rfl ?_
    refine x_aload_n C 0 dX9_givesAll_7 rfl rfl ?_
    refine x_getRq C (k := 23) kM_0 (by decide) rfl x_in9 (by decide) (by decide) rfl rfl wd_1231 rfM_0_23 dX9_givesAll_8 ?_
    refine x_aload_n C 0 dX9_givesAll_11 rfl rfl ?_
    refine x_getI C (k := 18) kM_0 (by decide) rfl x_in9 (by decide) (by decide) rfl rfl wd_1226 dX9_givesAll_12 ?_
    obtain ⟨hi2, h⟩ := x_gd_some h
    refine x_iald C kM_10 (x_inl lnM_10 hi2) dX9_givesAll_15 ?_
    refine x_icmp_ge C 36 dX9_givesAll_16 rfl (fun hc => ?_) (fun hc => ?_)
    · replace h := x_itp hc h
      obtain ⟨-, rfl⟩ := x_ret h
      exact x_vret C dX9_givesAll_36
    · replace h := x_itn hc h
      refine x_aload_n C 0 dX9_givesAll_19 rfl rfl ?_
      refine x_aload_n C 0 dX9_givesAll_20 rfl rfl ?_
      refine x_getRq C (k := 60) kM_0 (by decide) rfl x_in9 (by decide) (by decide) rfl rfl wd_1268 rfM_0_60 dX9_givesAll_21 ?_
      refine x_iload_n C 2 dX9_givesAll_24 rfl rfl ?_
      obtain ⟨hi3, h⟩ := x_gd_some h
      refine x_iald C kM_37 (x_inl lnM_37 hi3) dX9_givesAll_25 ?_
      refine x_iload_n C 1 dX9_givesAll_26 rfl rfl ?_
      obtain ⟨v4, σ4, hc4, h⟩ := x_b_some h
      refine x_callV C (n := 2) (c_X9_gives hG hc4) kM_0 (by decide) rfl wd_1676 wd_1678 wd_90 wd_111 wd_1679 (by decide +kernel) rfl ⟨Nat.le_of_ble_eq_true rfl, Nat.le_of_ble_eq_true rfl⟩ ⟨rfl, rfl⟩ rfl (Nat.le_of_ble_eq_true rfl) dX9_givesAll_27 ?_
      refine x_iinc C 2 (x2 + (1 : Int32)) [(2, .int (x2 + (1 : Int32))), (0, .ref (x_ad G 0)), (1, .int x1)] dX9_givesAll_30 rfl rfl (by decide) rfl ?_
      refine x_goto C 6 dX9_givesAll_33 rfl ?_
      exact x_sub [1, 2, 0] rfl (ih x1 (x2 + (1 : Int32)) σ4 h)
set_option maxHeartbeats 4000000 in
set_option maxRecDepth 100000 in
theorem c_X9_givesAll (hG : x_OK TM G) {x1 : Int32} {σ τ : x_Hp} (h : F_X9_givesAll x1 σ = some ((), τ)) : x_M l TM G yX9_givesAll cX9_givesAll 3 none rm_X9_givesAll [.ref (x_ad G 0), .int x1] σ none τ := by
  refine x_M.of hG (lv := [(0, .ref (x_ad G 0)), (1, .int x1)]) (by decide) (Nat.le_of_ble_eq_true rfl) rfl (fun p e s m below meth c C => ?_)
  rw [F_X9_givesAll] at h
  refine x_aload_n C 0 dX9_givesAll_0 rfl rfl ?_
  obtain ⟨v1, σ1, hc1, h⟩ := x_b_some h
  refine x_callV C (n := 0) (c_X9_starts hG hc1) kM_0 (by decide) rfl wd_1672 wd_1674 wd_89 wd_111 wd_1675 (by decide +kernel) rfl ⟨Nat.le_of_ble_eq_true rfl, Nat.le_of_ble_eq_true rfl⟩ ⟨rfl, rfl⟩ rfl (Nat.le_of_ble_eq_true rfl) dX9_givesAll_1 ?_
  refine x_iconst C (0 : Int32) dX9_givesAll_4 (by decide) ?_
  refine x_istore_n C [(2, .int (0 : Int32)), (0, .ref (x_ad G 0)), (1, .int x1)] dX9_givesAll_5 rfl (by decide) rfl ?_
  exact x_sub [1, 2, 0] rfl (w_X9_givesAll_6 C x_fuel x1 (0 : Int32) σ1 h)
abbrev rm_X9_apartNow : Room := { frames := 0, cells := 0, slots := 0, locals := 0 }
set_option maxHeartbeats 4000000 in
set_option maxRecDepth 100000 in
theorem w_X9_apartNow_58 {r : Int32} {τ : x_Hp} (C : x_C p s m args meth c cX9_apartNow 4 (some .int) yX9_apartNow.cls TM G) {k11 : Int32 → Int32 → Int32 → x_Hp → Option (Int32 × x_Hp)} (hk11 : ∀ (x1 : Int32) (x2 : Int32) (x3 : Int32) (σ : x_Hp) (h : k11 x1 x2 x3 σ = some (r, τ)), x_W p l e rm_X9_apartNow s m args below meth c (MQ below (x_Q TM G (some (.int r)) τ) args s 0 0 (x_A TM G)) TM G 4 11 [(0, .ref (x_ad G 0)), (1, .int x1), (2, .int x2), (3, .int x3)] [] σ) (x1 : Int32) (x2 : Int32) (x3 : Int32) (σ : x_Hp) (h : F_X9_apartNow_58 k11 x1 x2 x3 σ = some (r, τ)) : x_W p l e rm_X9_apartNow s m args below meth c (MQ below (x_Q TM G (some (.int r)) τ) args s 0 0 (x_A TM G)) TM G 4 58 [(0, .ref (x_ad G 0)), (1, .int x1), (2, .int x2), (3, .int x3)] [] σ := by
  have hG : x_OK TM G := C.2.2.2.2.2.2.2.2.1
  rw [F_X9_apartNow_58] at h
  refine x_iinc C 3 (x3 + (1 : Int32)) [(3, .int (x3 + (1 : Int32))), (0, .ref (x_ad G 0)), (1, .int x1), (2, .int x2)] dX9_apartNow_58 rfl rfl (by decide) rfl ?_
  refine x_goto C 11 dX9_apartNow_61 rfl ?_
  exact x_sub [1, 2, 3, 0] rfl (hk11 x1 x2 (x3 + (1 : Int32)) σ h)
set_option maxHeartbeats 4000000 in
set_option maxRecDepth 100000 in
theorem w_X9_apartNow_41 {r : Int32} {τ : x_Hp} (C : x_C p s m args meth c cX9_apartNow 4 (some .int) yX9_apartNow.cls TM G) {k11 : Int32 → Int32 → Int32 → x_Hp → Option (Int32 × x_Hp)} (hk11 : ∀ (x1 : Int32) (x2 : Int32) (x3 : Int32) (σ : x_Hp) (h : k11 x1 x2 x3 σ = some (r, τ)), x_W p l e rm_X9_apartNow s m args below meth c (MQ below (x_Q TM G (some (.int r)) τ) args s 0 0 (x_A TM G)) TM G 4 11 [(0, .ref (x_ad G 0)), (1, .int x1), (2, .int x2), (3, .int x3)] [] σ) (x1 : Int32) (x2 : Int32) (x3 : Int32) (σ : x_Hp) (h : F_X9_apartNow_41 k11 x1 x2 x3 σ = some (r, τ)) : x_W p l e rm_X9_apartNow s m args below meth c (MQ below (x_Q TM G (some (.int r)) τ) args s 0 0 (x_A TM G)) TM G 4 41 [(0, .ref (x_ad G 0)), (1, .int x1), (2, .int x2), (3, .int x3)] [] σ := by
  have hG : x_OK TM G := C.2.2.2.2.2.2.2.2.1
  rw [F_X9_apartNow_41] at h
  refine x_aload_n C 0 dX9_apartNow_41 rfl rfl ?_
  refine x_getRq C (k := 59) kM_0 (by decide) rfl x_in9 (by decide) (by decide) rfl rfl wd_1267 rfM_0_59 dX9_apartNow_42 ?_
  refine x_iload_n C 3 dX9_apartNow_45 rfl rfl ?_
  obtain ⟨hi4, h⟩ := x_gd_some h
  refine x_iald C kM_36 (x_inl lnM_36 hi4) dX9_apartNow_46 ?_
  refine x_iload_n C 2 dX9_apartNow_47 rfl rfl ?_
  refine x_icmp_le C 58 dX9_apartNow_48 rfl (fun hc => ?_) (fun hc => ?_)
  · replace h := x_itp hc h
    exact x_sub [0, 1, 2, 3] rfl (w_X9_apartNow_58 C hk11 x1 x2 x3 σ h)
  · replace h := x_itn hc h
    refine x_aload_n C 0 dX9_apartNow_51 rfl rfl ?_
    refine x_getRq C (k := 59) kM_0 (by decide) rfl x_in9 (by decide) (by decide) rfl rfl wd_1267 rfM_0_59 dX9_apartNow_52 ?_
    refine x_iload_n C 3 dX9_apartNow_55 rfl rfl ?_
    obtain ⟨hi5, h⟩ := x_gd_some h
    refine x_iald C kM_36 (x_inl lnM_36 hi5) dX9_apartNow_56 ?_
    refine x_istore_n C [(2, .int (σ.1 36 (x_ix x3))), (0, .ref (x_ad G 0)), (1, .int x1), (3, .int x3)] dX9_apartNow_57 rfl (by decide) rfl ?_
    exact x_sub [1, 2, 0, 3] rfl (w_X9_apartNow_58 C hk11 x1 (σ.1 36 (x_ix x3)) x3 σ h)
set_option maxHeartbeats 4000000 in
set_option maxRecDepth 100000 in
theorem w_X9_apartNow_11 {r : Int32} {τ : x_Hp} (C : x_C p s m args meth c cX9_apartNow 4 (some .int) yX9_apartNow.cls TM G) : ∀ (n : Nat) (x1 : Int32) (x2 : Int32) (x3 : Int32) (σ : x_Hp) (h : F_X9_apartNow_11 n x1 x2 x3 σ = some (r, τ)), x_W p l e rm_X9_apartNow s m args below meth c (MQ below (x_Q TM G (some (.int r)) τ) args s 0 0 (x_A TM G)) TM G 4 11 [(0, .ref (x_ad G 0)), (1, .int x1), (2, .int x2), (3, .int x3)] [] σ := by
  intro n
  induction n with
  | zero => intro x1 x2 x3 σ  h; cases h
  | succ n ih =>
    intro x1 x2 x3 σ  h
    have hG : x_OK TM G := C.2.2.2.2.2.2.2.2.1
    rw [F_X9_apartNow_11] at h
    refine x_iload_n C 3 dX9_apartNow_11 rfl rfl ?_
    refine x_aload_n C 0 dX9_apartNow_12 rfl rfl ?_
    refine x_getRq C (k := 23) kM_0 (by decide) rfl x_in9 (by decide) (by decide) rfl rfl wd_1231 rfM_0_23 dX9_apartNow_13 ?_
    refine x_aload_n C 0 dX9_apartNow_16 rfl rfl ?_
    refine x_getI C (k := 18) kM_0 (by decide) rfl x_in9 (by decide) (by decide) rfl rfl wd_1226 dX9_apartNow_17 ?_
    obtain ⟨hi1, h⟩ := x_gd_some h
    refine x_iald C kM_10 (x_inl lnM_10 hi1) dX9_apartNow_20 ?_
    refine x_icmp_ge C 64 dX9_apartNow_21 rfl (fun hc => ?_) (fun hc => ?_)
    · replace h := x_itp hc h
      refine x_iload_n C 2 dX9_apartNow_64 rfl rfl ?_
      refine x_iload_n C 1 dX9_apartNow_65 rfl rfl ?_
      refine x_isub C dX9_apartNow_66 ?_
      obtain ⟨rfl, rfl⟩ := x_ret h
      exact x_iret C dX9_apartNow_67
    · replace h := x_itn hc h
      refine x_aload_n C 0 dX9_apartNow_24 rfl rfl ?_
      refine x_getRq C (k := 59) kM_0 (by decide) rfl x_in9 (by decide) (by decide) rfl rfl wd_1267 rfM_0_59 dX9_apartNow_25 ?_
      refine x_iload_n C 3 dX9_apartNow_28 rfl rfl ?_
      obtain ⟨hi2, h⟩ := x_gd_some h
      refine x_iald C kM_36 (x_inl lnM_36 hi2) dX9_apartNow_29 ?_
      refine x_iload_n C 1 dX9_apartNow_30 rfl rfl ?_
      refine x_icmp_ge C 41 dX9_apartNow_31 rfl (fun hc => ?_) (fun hc => ?_)
      · replace h := x_itp hc h
        exact x_sub [0, 1, 2, 3] rfl (w_X9_apartNow_41 C ih x1 x2 x3 σ h)
      · replace h := x_itn hc h
        refine x_aload_n C 0 dX9_apartNow_34 rfl rfl ?_
        refine x_getRq C (k := 59) kM_0 (by decide) rfl x_in9 (by decide) (by decide) rfl rfl wd_1267 rfM_0_59 dX9_apartNow_35 ?_
        refine x_iload_n C 3 dX9_apartNow_38 rfl rfl ?_
        obtain ⟨hi3, h⟩ := x_gd_some h
        refine x_iald C kM_36 (x_inl lnM_36 hi3) dX9_apartNow_39 ?_
        refine x_istore_n C [(1, .int (σ.1 36 (x_ix x3))), (0, .ref (x_ad G 0)), (2, .int x2), (3, .int x3)] dX9_apartNow_40 rfl (by decide) rfl ?_
        exact x_sub [1, 0, 2, 3] rfl (w_X9_apartNow_41 C ih (σ.1 36 (x_ix x3)) x2 x3 σ h)
set_option maxHeartbeats 4000000 in
set_option maxRecDepth 100000 in
theorem c_X9_apartNow (hG : x_OK TM G) {σ τ : x_Hp} {r : Int32} (h : F_X9_apartNow σ = some (r, τ)) : x_M l TM G yX9_apartNow cX9_apartNow 4 (some .int) rm_X9_apartNow [.ref (x_ad G 0)] σ (some (.int r)) τ := by
  refine x_M.of hG (lv := [(0, .ref (x_ad G 0))]) (by decide) (Nat.le_of_ble_eq_true rfl) rfl (fun p e s m below meth c C => ?_)
  rw [F_X9_apartNow] at h
  refine x_aload_n C 0 dX9_apartNow_0 rfl rfl ?_
  refine x_getRq C (k := 59) kM_0 (by decide) rfl x_in9 (by decide) (by decide) rfl rfl wd_1267 rfM_0_59 dX9_apartNow_1 ?_
  refine x_iconst C (0 : Int32) dX9_apartNow_4 (by decide) ?_
  refine x_ialdJ C kM_36 (x_inl lnM_36 (by decide)) (j := 0) (by decide) dX9_apartNow_5 ?_
  refine x_istore_n C [(1, .int (σ.1 36 0)), (0, .ref (x_ad G 0))] dX9_apartNow_6 rfl (by decide) rfl ?_
  refine x_iload_n C 0 dX9_apartNow_7 rfl rfl ?_
  refine x_istore_n C [(2, .int (σ.1 36 0)), (1, .int (σ.1 36 0)), (0, .ref (x_ad G 0))] dX9_apartNow_8 rfl (by decide) rfl ?_
  refine x_iconst C (1 : Int32) dX9_apartNow_9 (by decide) ?_
  refine x_istore_n C [(3, .int (1 : Int32)), (2, .int (σ.1 36 0)), (1, .int (σ.1 36 0)), (0, .ref (x_ad G 0))] dX9_apartNow_10 rfl (by decide) rfl ?_
  exact x_sub [3, 2, 1, 0] rfl (w_X9_apartNow_11 C x_fuel (σ.1 36 0) (σ.1 36 0) (1 : Int32) σ h)
abbrev rm_X9_luckiest : Room := { frames := 0, cells := 0, slots := 0, locals := 0 }
set_option maxHeartbeats 4000000 in
set_option maxRecDepth 100000 in
theorem w_X9_luckiest_34 {r : Int32} {τ : x_Hp} (C : x_C p s m args meth c cX9_luckiest 3 (some .int) yX9_luckiest.cls TM G) {k4 : Int32 → Int32 → x_Hp → Option (Int32 × x_Hp)} (hk4 : ∀ (x1 : Int32) (x2 : Int32) (σ : x_Hp) (h : k4 x1 x2 σ = some (r, τ)), x_W p l e rm_X9_luckiest s m args below meth c (MQ below (x_Q TM G (some (.int r)) τ) args s 0 0 (x_A TM G)) TM G 3 4 [(0, .ref (x_ad G 0)), (1, .int x1), (2, .int x2)] [] σ) (x1 : Int32) (x2 : Int32) (σ : x_Hp) (h : F_X9_luckiest_34 k4 x1 x2 σ = some (r, τ)) : x_W p l e rm_X9_luckiest s m args below meth c (MQ below (x_Q TM G (some (.int r)) τ) args s 0 0 (x_A TM G)) TM G 3 34 [(0, .ref (x_ad G 0)), (1, .int x1), (2, .int x2)] [] σ := by
  have hG : x_OK TM G := C.2.2.2.2.2.2.2.2.1
  rw [F_X9_luckiest_34] at h
  refine x_iinc C 2 (x2 + (1 : Int32)) [(2, .int (x2 + (1 : Int32))), (0, .ref (x_ad G 0)), (1, .int x1)] dX9_luckiest_34 rfl rfl (by decide) rfl ?_
  refine x_goto C 4 dX9_luckiest_37 rfl ?_
  exact x_sub [1, 2, 0] rfl (hk4 x1 (x2 + (1 : Int32)) σ h)
set_option maxHeartbeats 4000000 in
set_option maxRecDepth 100000 in
theorem w_X9_luckiest_4 {r : Int32} {τ : x_Hp} (C : x_C p s m args meth c cX9_luckiest 3 (some .int) yX9_luckiest.cls TM G) : ∀ (n : Nat) (x1 : Int32) (x2 : Int32) (σ : x_Hp) (h : F_X9_luckiest_4 n x1 x2 σ = some (r, τ)), x_W p l e rm_X9_luckiest s m args below meth c (MQ below (x_Q TM G (some (.int r)) τ) args s 0 0 (x_A TM G)) TM G 3 4 [(0, .ref (x_ad G 0)), (1, .int x1), (2, .int x2)] [] σ := by
  intro n
  induction n with
  | zero => intro x1 x2 σ  h; cases h
  | succ n ih =>
    intro x1 x2 σ  h
    have hG : x_OK TM G := C.2.2.2.2.2.2.2.2.1
    rw [F_X9_luckiest_4] at h
    refine x_iload_n C 2 dX9_luckiest_4 rfl rfl ?_
    refine x_aload_n C 0 dX9_luckiest_5 rfl rfl ?_
    refine x_getRq C (k := 23) kM_0 (by decide) rfl x_in9 (by decide) (by decide) rfl rfl wd_1231 rfM_0_23 dX9_luckiest_6 ?_
    refine x_aload_n C 0 dX9_luckiest_9 rfl rfl ?_
    refine x_getI C (k := 18) kM_0 (by decide) rfl x_in9 (by decide) (by decide) rfl rfl wd_1226 dX9_luckiest_10 ?_
    obtain ⟨hi1, h⟩ := x_gd_some h
    refine x_iald C kM_10 (x_inl lnM_10 hi1) dX9_luckiest_13 ?_
    refine x_icmp_ge C 40 dX9_luckiest_14 rfl (fun hc => ?_) (fun hc => ?_)
    · replace h := x_itp hc h
      refine x_iload_n C 1 dX9_luckiest_40 rfl rfl ?_
      obtain ⟨rfl, rfl⟩ := x_ret h
      exact x_iret C dX9_luckiest_41
    · replace h := x_itn hc h
      refine x_aload_n C 0 dX9_luckiest_17 rfl rfl ?_
      refine x_getRq C (k := 58) kM_0 (by decide) rfl x_in9 (by decide) (by decide) rfl rfl wd_1266 rfM_0_58 dX9_luckiest_18 ?_
      refine x_iload_n C 2 dX9_luckiest_21 rfl rfl ?_
      obtain ⟨hi2, h⟩ := x_gd_some h
      refine x_iald C kM_35 (x_inl lnM_35 hi2) dX9_luckiest_22 ?_
      refine x_aload_n C 0 dX9_luckiest_23 rfl rfl ?_
      refine x_getRq C (k := 58) kM_0 (by decide) rfl x_in9 (by decide) (by decide) rfl rfl wd_1266 rfM_0_58 dX9_luckiest_24 ?_
      refine x_iload_n C 1 dX9_luckiest_27 rfl rfl ?_
      obtain ⟨hi3, h⟩ := x_gd_some h
      refine x_iald C kM_35 (x_inl lnM_35 hi3) dX9_luckiest_28 ?_
      refine x_icmp_ge C 34 dX9_luckiest_29 rfl (fun hc => ?_) (fun hc => ?_)
      · replace h := x_itp hc h
        exact x_sub [0, 1, 2] rfl (w_X9_luckiest_34 C ih x1 x2 σ h)
      · replace h := x_itn hc h
        refine x_iload_n C 2 dX9_luckiest_32 rfl rfl ?_
        refine x_istore_n C [(1, .int x2), (0, .ref (x_ad G 0)), (2, .int x2)] dX9_luckiest_33 rfl (by decide) rfl ?_
        exact x_sub [1, 0, 2] rfl (w_X9_luckiest_34 C ih x2 x2 σ h)
set_option maxHeartbeats 4000000 in
set_option maxRecDepth 100000 in
theorem c_X9_luckiest (hG : x_OK TM G) {σ τ : x_Hp} {r : Int32} (h : F_X9_luckiest σ = some (r, τ)) : x_M l TM G yX9_luckiest cX9_luckiest 3 (some .int) rm_X9_luckiest [.ref (x_ad G 0)] σ (some (.int r)) τ := by
  refine x_M.of hG (lv := [(0, .ref (x_ad G 0))]) (by decide) (Nat.le_of_ble_eq_true rfl) rfl (fun p e s m below meth c C => ?_)
  rw [F_X9_luckiest] at h
  refine x_iconst C (0 : Int32) dX9_luckiest_0 (by decide) ?_
  refine x_istore_n C [(1, .int (0 : Int32)), (0, .ref (x_ad G 0))] dX9_luckiest_1 rfl (by decide) rfl ?_
  refine x_iconst C (1 : Int32) dX9_luckiest_2 (by decide) ?_
  refine x_istore_n C [(2, .int (1 : Int32)), (1, .int (0 : Int32)), (0, .ref (x_ad G 0))] dX9_luckiest_3 rfl (by decide) rfl ?_
  exact x_sub [2, 1, 0] rfl (w_X9_luckiest_4 C x_fuel (0 : Int32) (1 : Int32) σ h)
abbrev rm_X9_fillsOrders : Room := { frames := 7, cells := 0, slots := 0, locals := 166 }
set_option maxHeartbeats 4000000 in
set_option maxRecDepth 100000 in
theorem w_X9_fillsOrders_189 {τ : x_Hp} (C : x_C p s m args meth c cX9_fillsOrders 4 none yX9_fillsOrders.cls TM G) {k42 : Int32 → Int32 → x_Hp → Option (Unit × x_Hp)} (hk42 : ∀ (x1 : Int32) (x2 : Int32) (σ : x_Hp) (h : k42 x1 x2 σ = some ((), τ)), x_W p l e rm_X9_fillsOrders s m args below meth c (MQ below (x_Q TM G none τ) args s 0 0 (x_A TM G)) TM G 4 42 [(0, .ref (x_ad G 0)), (1, .int x1), (2, .int x2)] [] σ) (x1 : Int32) (σ : x_Hp) (h : F_X9_fillsOrders_189 k42 x1 σ = some ((), τ)) : x_W p l e rm_X9_fillsOrders s m args below meth c (MQ below (x_Q TM G none τ) args s 0 0 (x_A TM G)) TM G 4 189 [(0, .ref (x_ad G 0)), (1, .int x1)] [] σ := by
  have hG : x_OK TM G := C.2.2.2.2.2.2.2.2.1
  rw [F_X9_fillsOrders_189] at h
  refine x_aload_n C 0 dX9_fillsOrders_189 rfl rfl ?_
  obtain ⟨v22, σ22, hc22, h⟩ := x_b_some h
  refine x_callV C (n := 0) (c_X9_nextOrder hG hc22) kM_0 (by decide) rfl wd_1688 wd_1690 wd_93 wd_111 wd_1691 (by decide +kernel) rfl ⟨Nat.le_of_ble_eq_true rfl, Nat.le_of_ble_eq_true rfl⟩ ⟨rfl, rfl⟩ rfl (Nat.le_of_ble_eq_true rfl) dX9_fillsOrders_190 ?_
  refine x_istore_n C [(2, .int v22), (0, .ref (x_ad G 0)), (1, .int x1)] dX9_fillsOrders_193 rfl (by decide) rfl ?_
  refine x_goto C 42 dX9_fillsOrders_194 rfl ?_
  exact x_sub [1, 2, 0] rfl (hk42 x1 v22 σ22 h)
set_option maxHeartbeats 4000000 in
set_option maxRecDepth 100000 in
theorem w_X9_fillsOrders_171 {τ : x_Hp} (C : x_C p s m args meth c cX9_fillsOrders 4 none yX9_fillsOrders.cls TM G) {k42 : Int32 → Int32 → x_Hp → Option (Unit × x_Hp)} (hk42 : ∀ (x1 : Int32) (x2 : Int32) (σ : x_Hp) (h : k42 x1 x2 σ = some ((), τ)), x_W p l e rm_X9_fillsOrders s m args below meth c (MQ below (x_Q TM G none τ) args s 0 0 (x_A TM G)) TM G 4 42 [(0, .ref (x_ad G 0)), (1, .int x1), (2, .int x2)] [] σ) (x1 : Int32) (σ : x_Hp) (h : F_X9_fillsOrders_171 k42 x1 σ = some ((), τ)) : x_W p l e rm_X9_fillsOrders s m args below meth c (MQ below (x_Q TM G none τ) args s 0 0 (x_A TM G)) TM G 4 171 [(0, .ref (x_ad G 0)), (1, .int x1)] [] σ := by
  have hG : x_OK TM G := C.2.2.2.2.2.2.2.2.1
  rw [F_X9_fillsOrders_171] at h
  refine x_aload_n C 0 dX9_fillsOrders_171 rfl rfl ?_
  refine x_aload_n C 0 dX9_fillsOrders_172 rfl rfl ?_
  obtain ⟨v19, σ19, hc19, h⟩ := x_b_some h
  refine x_callV C (n := 0) (c_X9_apartNow hG hc19) kM_0 (by decide) rfl wd_1684 wd_1686 wd_92 wd_111 wd_1687 (by decide +kernel) rfl ⟨Nat.le_of_ble_eq_true rfl, Nat.le_of_ble_eq_true rfl⟩ ⟨rfl, rfl⟩ rfl (Nat.le_of_ble_eq_true rfl) dX9_fillsOrders_173 ?_
  refine x_putI C (k := 65) tyX9 kM_0 (by decide) rfl x_in9 tyX9_ok nmX9 (by decide) (by decide) rfl rfl wd_1273 rfl (tyX9_ok 65 (by decide)) rfl rfl dX9_fillsOrders_176 (x_gen h fun σ20 h => ?_)
  refine x_aload_n C 0 dX9_fillsOrders_179 rfl rfl ?_
  refine x_aload_n C 0 dX9_fillsOrders_180 rfl rfl ?_
  refine x_getRq C (k := 60) kM_0 (by decide) rfl x_in9 (by decide) (by decide) rfl rfl wd_1268 rfM_0_60 dX9_fillsOrders_181 ?_
  refine x_iconst C (0 : Int32) dX9_fillsOrders_184 (by decide) ?_
  refine x_ialdJ C kM_37 (x_inl lnM_37 (by decide)) (j := 0) (by decide) dX9_fillsOrders_185 ?_
  refine x_putI C (k := 66) tyX9 kM_0 (by decide) rfl x_in9 tyX9_ok nmX9 (by decide) (by decide) rfl rfl wd_1274 rfl (tyX9_ok 66 (by decide)) rfl rfl dX9_fillsOrders_186 (x_gen h fun σ21 h => ?_)
  exact x_sub [0, 1] rfl (w_X9_fillsOrders_189 C hk42 x1 σ21 h)
set_option maxHeartbeats 4000000 in
set_option maxRecDepth 100000 in
theorem w_X9_fillsOrders_140 {τ : x_Hp} (C : x_C p s m args meth c cX9_fillsOrders 4 none yX9_fillsOrders.cls TM G) {k42 : Int32 → Int32 → x_Hp → Option (Unit × x_Hp)} (hk42 : ∀ (x1 : Int32) (x2 : Int32) (σ : x_Hp) (h : k42 x1 x2 σ = some ((), τ)), x_W p l e rm_X9_fillsOrders s m args below meth c (MQ below (x_Q TM G none τ) args s 0 0 (x_A TM G)) TM G 4 42 [(0, .ref (x_ad G 0)), (1, .int x1), (2, .int x2)] [] σ) (x1 : Int32) (σ : x_Hp) (h : F_X9_fillsOrders_140 k42 x1 σ = some ((), τ)) : x_W p l e rm_X9_fillsOrders s m args below meth c (MQ below (x_Q TM G none τ) args s 0 0 (x_A TM G)) TM G 4 140 [(0, .ref (x_ad G 0)), (1, .int x1)] [] σ := by
  have hG : x_OK TM G := C.2.2.2.2.2.2.2.2.1
  rw [F_X9_fillsOrders_140] at h
  refine x_aload_n C 0 dX9_fillsOrders_140 rfl rfl ?_
  refine x_getRq C (k := 64) kM_0 (by decide) rfl x_in9 (by decide) (by decide) rfl rfl wd_1272 rfM_0_64 dX9_fillsOrders_141 ?_
  refine x_aload_n C 0 dX9_fillsOrders_144 rfl rfl ?_
  obtain ⟨v14, σ14, hc14, h⟩ := x_b_some h
  refine x_callV C (n := 0) (c_X9_luckiest hG hc14) kM_0 (by decide) rfl wd_1680 wd_1682 wd_91 wd_111 wd_1683 (by decide +kernel) rfl ⟨Nat.le_of_ble_eq_true rfl, Nat.le_of_ble_eq_true rfl⟩ ⟨rfl, rfl⟩ rfl (Nat.le_of_ble_eq_true rfl) dX9_fillsOrders_145 ?_
  refine x_dup2 C dX9_fillsOrders_148 rfl rfl ?_
  obtain ⟨hi15, h⟩ := x_gd_some h
  refine x_iald C kM_39 (x_inl lnM_39 hi15) dX9_fillsOrders_149 ?_
  refine x_iconst C (1 : Int32) dX9_fillsOrders_150 (by decide) ?_
  refine x_iadd C dX9_fillsOrders_151 ?_
  obtain ⟨hi16, h⟩ := x_gd_some h
  refine x_iast C kM_39 (x_inl lnM_39 hi16) dX9_fillsOrders_152 (x_gen h fun σ17 h => ?_)
  refine x_aload_n C 0 dX9_fillsOrders_153 rfl rfl ?_
  refine x_getI C (k := 65) kM_0 (by decide) rfl x_in9 (by decide) (by decide) rfl rfl wd_1273 dX9_fillsOrders_154 ?_
  refine x_if_lt C 171 dX9_fillsOrders_157 rfl (fun hc => ?_) (fun hc => ?_)
  · replace h := x_itp hc h
    exact x_sub [0, 1] rfl (w_X9_fillsOrders_171 C hk42 x1 σ17 h)
  · replace h := x_itn hc h
    refine x_aload_n C 0 dX9_fillsOrders_160 rfl rfl ?_
    obtain ⟨v18, σ18, hc18, h⟩ := x_b_some h
    refine x_callV C (n := 0) (c_X9_apartNow hG hc18) kM_0 (by decide) rfl wd_1684 wd_1686 wd_92 wd_111 wd_1687 (by decide +kernel) rfl ⟨Nat.le_of_ble_eq_true rfl, Nat.le_of_ble_eq_true rfl⟩ ⟨rfl, rfl⟩ rfl (Nat.le_of_ble_eq_true rfl) dX9_fillsOrders_161 ?_
    refine x_aload_n C 0 dX9_fillsOrders_164 rfl rfl ?_
    refine x_getI C (k := 65) kM_0 (by decide) rfl x_in9 (by decide) (by decide) rfl rfl wd_1273 dX9_fillsOrders_165 ?_
    refine x_icmp_ge C 189 dX9_fillsOrders_168 rfl (fun hc => ?_) (fun hc => ?_)
    · replace h := x_itp hc h
      exact x_sub [0, 1] rfl (w_X9_fillsOrders_189 C hk42 x1 σ18 h)
    · replace h := x_itn hc h
      exact x_sub [0, 1] rfl (w_X9_fillsOrders_171 C hk42 x1 σ18 h)
set_option maxHeartbeats 4000000 in
set_option maxRecDepth 100000 in
theorem w_X9_fillsOrders_103 {τ : x_Hp} (C : x_C p s m args meth c cX9_fillsOrders 4 none yX9_fillsOrders.cls TM G) {k42 : Int32 → Int32 → x_Hp → Option (Unit × x_Hp)} (hk42 : ∀ (x1 : Int32) (x2 : Int32) (σ : x_Hp) (h : k42 x1 x2 σ = some ((), τ)), x_W p l e rm_X9_fillsOrders s m args below meth c (MQ below (x_Q TM G none τ) args s 0 0 (x_A TM G)) TM G 4 42 [(0, .ref (x_ad G 0)), (1, .int x1), (2, .int x2)] [] σ) (x1 : Int32) (σ : x_Hp) (h : F_X9_fillsOrders_103 k42 x1 σ = some ((), τ)) : x_W p l e rm_X9_fillsOrders s m args below meth c (MQ below (x_Q TM G none τ) args s 0 0 (x_A TM G)) TM G 4 103 [(0, .ref (x_ad G 0)), (1, .int x1)] [] σ := by
  have hG : x_OK TM G := C.2.2.2.2.2.2.2.2.1
  rw [F_X9_fillsOrders_103] at h
  refine x_aload_n C 0 dX9_fillsOrders_103 rfl rfl ?_
  refine x_getI C (k := 57) kM_0 (by decide) rfl x_in9 (by decide) (by decide) rfl rfl wd_1265 dX9_fillsOrders_104 ?_
  refine x_if_lt C 140 dX9_fillsOrders_107 rfl (fun hc => ?_) (fun hc => ?_)
  · replace h := x_itp hc h
    exact x_sub [0, 1] rfl (w_X9_fillsOrders_140 C hk42 x1 σ h)
  · replace h := x_itn hc h
    refine x_aload_n C 0 dX9_fillsOrders_110 rfl rfl ?_
    refine x_getRq C (k := 28) kM_0 (by decide) rfl x_in9 (by decide) (by decide) rfl rfl wd_1236 rfM_0_28 dX9_fillsOrders_111 ?_
    refine x_bipush C (6 : Int32) dX9_fillsOrders_114 (by decide) ?_
    refine x_aload_n C 0 dX9_fillsOrders_116 rfl rfl ?_
    refine x_getI C (k := 18) kM_0 (by decide) rfl x_in9 (by decide) (by decide) rfl rfl wd_1226 dX9_fillsOrders_117 ?_
    refine x_imul C dX9_fillsOrders_120 ?_
    refine x_aload_n C 0 dX9_fillsOrders_121 rfl rfl ?_
    refine x_getI C (k := 57) kM_0 (by decide) rfl x_in9 (by decide) (by decide) rfl rfl wd_1265 dX9_fillsOrders_122 ?_
    refine x_iadd C dX9_fillsOrders_125 ?_
    obtain ⟨hi9, h⟩ := x_gd_some h
    refine x_zald C kM_15 (x_inl lnM_15 hi9) dX9_fillsOrders_126 ?_
    refine x_if_eq C 140 dX9_fillsOrders_127 rfl (fun hc => ?_) (fun hc => ?_)
    · replace h := x_itp hc h
      exact x_sub [0, 1] rfl (w_X9_fillsOrders_140 C hk42 x1 σ h)
    · replace h := x_itn hc h
      refine x_aload_n C 0 dX9_fillsOrders_130 rfl rfl ?_
      refine x_dup C dX9_fillsOrders_131 rfl ?_
      refine x_getI C (k := 63) kM_0 (by decide) rfl x_in9 (by decide) (by decide) rfl rfl wd_1271 dX9_fillsOrders_132 ?_
      refine x_iconst C (1 : Int32) dX9_fillsOrders_135 (by decide) ?_
      refine x_iadd C dX9_fillsOrders_136 ?_
      refine x_putI C (k := 63) tyX9 kM_0 (by decide) rfl x_in9 tyX9_ok nmX9 (by decide) (by decide) rfl rfl wd_1271 rfl (tyX9_ok 63 (by decide)) rfl rfl dX9_fillsOrders_137 (x_gen h fun σ10 h => ?_)
      exact x_sub [0, 1] rfl (w_X9_fillsOrders_140 C hk42 x1 σ10 h)
set_option maxHeartbeats 4000000 in
set_option maxRecDepth 100000 in
theorem w_X9_fillsOrders_79 {τ : x_Hp} (C : x_C p s m args meth c cX9_fillsOrders 4 none yX9_fillsOrders.cls TM G) {k42 : Int32 → Int32 → x_Hp → Option (Unit × x_Hp)} (hk42 : ∀ (x1 : Int32) (x2 : Int32) (σ : x_Hp) (h : k42 x1 x2 σ = some ((), τ)), x_W p l e rm_X9_fillsOrders s m args below meth c (MQ below (x_Q TM G none τ) args s 0 0 (x_A TM G)) TM G 4 42 [(0, .ref (x_ad G 0)), (1, .int x1), (2, .int x2)] [] σ) : ∀ (n : Nat) (x1 : Int32) (x3 : Int32) (σ : x_Hp) (h : F_X9_fillsOrders_79 k42 n x1 x3 σ = some ((), τ)), x_W p l e rm_X9_fillsOrders s m args below meth c (MQ below (x_Q TM G none τ) args s 0 0 (x_A TM G)) TM G 4 79 [(0, .ref (x_ad G 0)), (1, .int x1), (3, .int x3)] [] σ := by
  intro n
  induction n with
  | zero => intro x1 x3 σ  h; cases h
  | succ n ih =>
    intro x1 x3 σ  h
    have hG : x_OK TM G := C.2.2.2.2.2.2.2.2.1
    rw [F_X9_fillsOrders_79] at h
    refine x_iload_n C 2 dX9_fillsOrders_79 rfl rfl ?_
    refine x_bipush C (6 : Int32) dX9_fillsOrders_80 (by decide) ?_
    refine x_icmp_ge C 103 dX9_fillsOrders_82 rfl (fun hc => ?_) (fun hc => ?_)
    · replace h := x_itp hc h
      exact x_sub [0, 1] rfl (w_X9_fillsOrders_103 C hk42 x1 σ h)
    · replace h := x_itn hc h
      refine x_aload_n C 0 dX9_fillsOrders_85 rfl rfl ?_
      refine x_getRq C (k := 62) kM_0 (by decide) rfl x_in9 (by decide) (by decide) rfl rfl wd_1270 rfM_0_62 dX9_fillsOrders_86 ?_
      refine x_iload_n C 2 dX9_fillsOrders_89 rfl rfl ?_
      refine x_aload_n C 0 dX9_fillsOrders_90 rfl rfl ?_
      refine x_getRq C (k := 60) kM_0 (by decide) rfl x_in9 (by decide) (by decide) rfl rfl wd_1268 rfM_0_60 dX9_fillsOrders_91 ?_
      refine x_iload_n C 2 dX9_fillsOrders_94 rfl rfl ?_
      obtain ⟨hi11, h⟩ := x_gd_some h
      refine x_iald C kM_37 (x_inl lnM_37 hi11) dX9_fillsOrders_95 ?_
      obtain ⟨hi12, h⟩ := x_gd_some h
      refine x_iast C kM_38 (x_inl lnM_38 hi12) dX9_fillsOrders_96 (x_gen h fun σ13 h => ?_)
      refine x_iinc C 2 (x3 + (1 : Int32)) [(3, .int (x3 + (1 : Int32))), (0, .ref (x_ad G 0)), (1, .int x1)] dX9_fillsOrders_97 rfl rfl (by decide) rfl ?_
      refine x_goto C 79 dX9_fillsOrders_100 rfl ?_
      exact x_sub [1, 2, 0] rfl (ih x1 (x3 + (1 : Int32)) σ13 h)
set_option maxHeartbeats 4000000 in
set_option maxRecDepth 100000 in
theorem w_X9_fillsOrders_69 {τ : x_Hp} (C : x_C p s m args meth c cX9_fillsOrders 4 none yX9_fillsOrders.cls TM G) {k42 : Int32 → Int32 → x_Hp → Option (Unit × x_Hp)} (hk42 : ∀ (x1 : Int32) (x2 : Int32) (σ : x_Hp) (h : k42 x1 x2 σ = some ((), τ)), x_W p l e rm_X9_fillsOrders s m args below meth c (MQ below (x_Q TM G none τ) args s 0 0 (x_A TM G)) TM G 4 42 [(0, .ref (x_ad G 0)), (1, .int x1), (2, .int x2)] [] σ) (x1 : Int32) (σ : x_Hp) (h : F_X9_fillsOrders_69 k42 x1 σ = some ((), τ)) : x_W p l e rm_X9_fillsOrders s m args below meth c (MQ below (x_Q TM G none τ) args s 0 0 (x_A TM G)) TM G 4 69 [(0, .ref (x_ad G 0)), (1, .int x1)] [] σ := by
  have hG : x_OK TM G := C.2.2.2.2.2.2.2.2.1
  rw [F_X9_fillsOrders_69] at h
  refine x_aload_n C 0 dX9_fillsOrders_69 rfl rfl ?_
  refine x_aload_n C 0 dX9_fillsOrders_70 rfl rfl ?_
  refine x_getI C (k := 56) kM_0 (by decide) rfl x_in9 (by decide) (by decide) rfl rfl wd_1264 dX9_fillsOrders_71 ?_
  refine x_putI C (k := 61) tyX9 kM_0 (by decide) rfl x_in9 tyX9_ok nmX9 (by decide) (by decide) rfl rfl wd_1269 rfl (tyX9_ok 61 (by decide)) rfl rfl dX9_fillsOrders_74 (x_gen h fun σ8 h => ?_)
  refine x_iconst C (0 : Int32) dX9_fillsOrders_77 (by decide) ?_
  refine x_istore_n C [(3, .int (0 : Int32)), (0, .ref (x_ad G 0)), (1, .int x1)] dX9_fillsOrders_78 rfl (by decide) rfl ?_
  exact x_sub [1, 2, 0] rfl (w_X9_fillsOrders_79 C hk42 x_fuel x1 (0 : Int32) σ8 h)
set_option maxHeartbeats 4000000 in
set_option maxRecDepth 100000 in
theorem w_X9_fillsOrders_42 {τ : x_Hp} (C : x_C p s m args meth c cX9_fillsOrders 4 none yX9_fillsOrders.cls TM G) : ∀ (n : Nat) (x1 : Int32) (x2 : Int32) (σ : x_Hp) (h : F_X9_fillsOrders_42 n x1 x2 σ = some ((), τ)), x_W p l e rm_X9_fillsOrders s m args below meth c (MQ below (x_Q TM G none τ) args s 0 0 (x_A TM G)) TM G 4 42 [(0, .ref (x_ad G 0)), (1, .int x1), (2, .int x2)] [] σ := by
  intro n
  induction n with
  | zero => intro x1 x2 σ  h; cases h
  | succ n ih =>
    intro x1 x2 σ  h
    have hG : x_OK TM G := C.2.2.2.2.2.2.2.2.1
    rw [F_X9_fillsOrders_42] at h
    refine x_iload_n C 2 dX9_fillsOrders_42 rfl rfl ?_
    refine x_if_eq C 197 dX9_fillsOrders_43 rfl (fun hc => ?_) (fun hc => ?_)
    · replace h := x_itp hc h
      obtain ⟨-, rfl⟩ := x_ret h
      exact x_vret C dX9_fillsOrders_197
    · replace h := x_itn hc h
      refine x_aload_n C 0 dX9_fillsOrders_46 rfl rfl ?_
      refine x_iload_n C 1 dX9_fillsOrders_47 rfl rfl ?_
      obtain ⟨v7, σ7, hc7, h⟩ := x_b_some h
      refine x_callV C (n := 1) (c_X9_givesAll hG hc7) kM_0 (by decide) rfl wd_1668 wd_1670 wd_88 wd_111 wd_1671 (by decide +kernel) rfl ⟨Nat.le_of_ble_eq_true rfl, Nat.le_of_ble_eq_true rfl⟩ ⟨rfl, rfl⟩ rfl (Nat.le_of_ble_eq_true rfl) dX9_fillsOrders_48 ?_
      refine x_aload_n C 0 dX9_fillsOrders_51 rfl rfl ?_
      refine x_getI C (k := 61) kM_0 (by decide) rfl x_in9 (by decide) (by decide) rfl rfl wd_1269 dX9_fillsOrders_52 ?_
      refine x_if_lt C 69 dX9_fillsOrders_55 rfl (fun hc => ?_) (fun hc => ?_)
      · replace h := x_itp hc h
        exact x_sub [0, 1] rfl (w_X9_fillsOrders_69 C ih x1 σ7 h)
      · replace h := x_itn hc h
        refine x_aload_n C 0 dX9_fillsOrders_58 rfl rfl ?_
        refine x_getI C (k := 56) kM_0 (by decide) rfl x_in9 (by decide) (by decide) rfl rfl wd_1264 dX9_fillsOrders_59 ?_
        refine x_aload_n C 0 dX9_fillsOrders_62 rfl rfl ?_
        refine x_getI C (k := 61) kM_0 (by decide) rfl x_in9 (by decide) (by decide) rfl rfl wd_1269 dX9_fillsOrders_63 ?_
        refine x_icmp_ge C 103 dX9_fillsOrders_66 rfl (fun hc => ?_) (fun hc => ?_)
        · replace h := x_itp hc h
          exact x_sub [0, 1] rfl (w_X9_fillsOrders_103 C ih x1 σ7 h)
        · replace h := x_itn hc h
          exact x_sub [0, 1] rfl (w_X9_fillsOrders_69 C ih x1 σ7 h)
set_option maxHeartbeats 4000000 in
set_option maxRecDepth 100000 in
theorem w_X9_fillsOrders_21 {τ : x_Hp} (C : x_C p s m args meth c cX9_fillsOrders 4 none yX9_fillsOrders.cls TM G) : ∀ (n : Nat) (x1 : Int32) (x2 : Int32) (σ : x_Hp) (h : F_X9_fillsOrders_21 n x1 x2 σ = some ((), τ)), x_W p l e rm_X9_fillsOrders s m args below meth c (MQ below (x_Q TM G none τ) args s 0 0 (x_A TM G)) TM G 4 21 [(0, .ref (x_ad G 0)), (1, .int x1), (2, .int x2)] [] σ := by
  intro n
  induction n with
  | zero => intro x1 x2 σ  h; cases h
  | succ n ih =>
    intro x1 x2 σ  h
    have hG : x_OK TM G := C.2.2.2.2.2.2.2.2.1
    rw [F_X9_fillsOrders_21] at h
    refine x_iload_n C 2 dX9_fillsOrders_21 rfl rfl ?_
    refine x_bipush C (6 : Int32) dX9_fillsOrders_22 (by decide) ?_
    refine x_icmp_ge C 40 dX9_fillsOrders_24 rfl (fun hc => ?_) (fun hc => ?_)
    · replace h := x_itp hc h
      refine x_iconst C (1 : Int32) dX9_fillsOrders_40 (by decide) ?_
      refine x_istore_n C [(2, .int (1 : Int32)), (0, .ref (x_ad G 0)), (1, .int x1)] dX9_fillsOrders_41 rfl (by decide) rfl ?_
      exact x_sub [1, 2, 0] rfl (w_X9_fillsOrders_42 C x_fuel x1 (1 : Int32) σ h)
    · replace h := x_itn hc h
      refine x_aload_n C 0 dX9_fillsOrders_27 rfl rfl ?_
      refine x_getRq C (k := 64) kM_0 (by decide) rfl x_in9 (by decide) (by decide) rfl rfl wd_1272 rfM_0_64 dX9_fillsOrders_28 ?_
      refine x_iload_n C 2 dX9_fillsOrders_31 rfl rfl ?_
      refine x_iconst C (0 : Int32) dX9_fillsOrders_32 (by decide) ?_
      obtain ⟨hi5, h⟩ := x_gd_some h
      refine x_iast C kM_39 (x_inl lnM_39 hi5) dX9_fillsOrders_33 (x_gen h fun σ6 h => ?_)
      refine x_iinc C 2 (x2 + (1 : Int32)) [(2, .int (x2 + (1 : Int32))), (0, .ref (x_ad G 0)), (1, .int x1)] dX9_fillsOrders_34 rfl rfl (by decide) rfl ?_
      refine x_goto C 21 dX9_fillsOrders_37 rfl ?_
      exact x_sub [1, 2, 0] rfl (ih x1 (x2 + (1 : Int32)) σ6 h)
set_option maxHeartbeats 4000000 in
set_option maxRecDepth 100000 in
theorem c_X9_fillsOrders (hG : x_OK TM G) {x1 : Int32} {σ τ : x_Hp} (h : F_X9_fillsOrders x1 σ = some ((), τ)) : x_M l TM G yX9_fillsOrders cX9_fillsOrders 4 none rm_X9_fillsOrders [.ref (x_ad G 0), .int x1] σ none τ := by
  refine x_M.of hG (lv := [(0, .ref (x_ad G 0)), (1, .int x1)]) (by decide) (Nat.le_of_ble_eq_true rfl) rfl (fun p e s m below meth c C => ?_)
  rw [F_X9_fillsOrders] at h
  refine x_aload_n C 0 dX9_fillsOrders_0 rfl rfl ?_
  obtain ⟨v1, σ1, hc1, h⟩ := x_b_some h
  refine x_callV C (n := 0) (c_X9_firstOrder hG hc1) kM_0 (by decide) rfl wd_1664 wd_1666 wd_87 wd_111 wd_1667 (by decide +kernel) rfl ⟨Nat.le_of_ble_eq_true rfl, Nat.le_of_ble_eq_true rfl⟩ ⟨rfl, rfl⟩ rfl (Nat.le_of_ble_eq_true rfl) dX9_fillsOrders_1 ?_
  refine x_aload_n C 0 dX9_fillsOrders_4 rfl rfl ?_
  refine x_iconst C (-1 : Int32) dX9_fillsOrders_5 (by decide) ?_
  refine x_putI C (k := 61) tyX9 kM_0 (by decide) rfl x_in9 tyX9_ok nmX9 (by decide) (by decide) rfl rfl wd_1269 rfl (tyX9_ok 61 (by decide)) rfl rfl dX9_fillsOrders_6 (x_gen h fun σ2 h => ?_)
  refine x_aload_n C 0 dX9_fillsOrders_9 rfl rfl ?_
  refine x_iconst C (-1 : Int32) dX9_fillsOrders_10 (by decide) ?_
  refine x_putI C (k := 65) tyX9 kM_0 (by decide) rfl x_in9 tyX9_ok nmX9 (by decide) (by decide) rfl rfl wd_1273 rfl (tyX9_ok 65 (by decide)) rfl rfl dX9_fillsOrders_11 (x_gen h fun σ3 h => ?_)
  refine x_aload_n C 0 dX9_fillsOrders_14 rfl rfl ?_
  refine x_iconst C (0 : Int32) dX9_fillsOrders_15 (by decide) ?_
  refine x_putI C (k := 63) tyX9 kM_0 (by decide) rfl x_in9 tyX9_ok nmX9 (by decide) (by decide) rfl rfl wd_1271 rfl (tyX9_ok 63 (by decide)) rfl rfl dX9_fillsOrders_16 (x_gen h fun σ4 h => ?_)
  refine x_iconst C (0 : Int32) dX9_fillsOrders_19 (by decide) ?_
  refine x_istore_n C [(2, .int (0 : Int32)), (0, .ref (x_ad G 0)), (1, .int x1)] dX9_fillsOrders_20 rfl (by decide) rfl ?_
  exact x_sub [1, 2, 0] rfl (w_X9_fillsOrders_21 C x_fuel x1 (0 : Int32) σ4 h)
abbrev rm_X9_isShort : Room := { frames := 1, cells := 0, slots := 0, locals := 22 }
set_option maxHeartbeats 4000000 in
set_option maxRecDepth 100000 in
theorem c_X9_isShort (hG : x_OK TM G) {x0 : Int32} {σ τ : x_Hp} {r : Int32} (h : F_X9_isShort x0 σ = some (r, τ)) : x_M l TM G yX9_isShort cX9_isShort 1 (some .boolean) rm_X9_isShort [.int x0] σ (some (.int r)) τ := by
  refine x_M.of hG (lv := [(0, .int x0)]) (by decide) (Nat.le_of_ble_eq_true rfl) rfl (fun p e s m below meth c C => ?_)
  rw [F_X9_isShort] at h
  refine x_iload_n C 0 dX9_isShort_0 rfl rfl ?_
  refine x_iconst C (1 : Int32) dX9_isShort_1 (by decide) ?_
  refine x_bipush C (10 : Int32) dX9_isShort_2 (by decide) ?_
  obtain ⟨v1, σ1, hc1, h⟩ := x_b_some h
  refine x_callS C (n := 3) (c_X9_in hG hc1) wd_1531 wd_1532 wd_111 wd_1533 (by decide +kernel) rfl ⟨Nat.le_of_ble_eq_true rfl, Nat.le_of_ble_eq_true rfl⟩ ⟨rfl, rfl⟩ rfl (Nat.le_of_ble_eq_true rfl) dX9_isShort_4 ?_
  obtain ⟨hg, h⟩ := x_gd_some h
  obtain ⟨rfl, rfl⟩ := x_ret h
  exact x_zret C (x_isz_n hg) dX9_isShort_7
abbrev rm_X9_order : Room := { frames := 8, cells := 0, slots := 0, locals := 189 }
set_option maxHeartbeats 4000000 in
set_option maxRecDepth 100000 in
theorem c_X9_order (hG : x_OK TM G) {x1 : Int32} {σ τ : x_Hp} {r : Int32} (h : F_X9_order x1 σ = some (r, τ)) : x_M l TM G yX9_order cX9_order 2 (some .int) rm_X9_order [.ref (x_ad G 0), .int x1] σ (some (.int r)) τ := by
  refine x_M.of hG (lv := [(0, .ref (x_ad G 0)), (1, .int x1)]) (by decide) (Nat.le_of_ble_eq_true rfl) rfl (fun p e s m below meth c C => ?_)
  rw [F_X9_order] at h
  refine x_iload_n C 1 dX9_order_0 rfl rfl ?_
  obtain ⟨v1, σ1, hc1, h⟩ := x_b_some h
  refine x_callS C (n := 1) (c_X9_isShort hG hc1) wd_1657 wd_1658 wd_111 wd_1659 (by decide +kernel) rfl ⟨Nat.le_of_ble_eq_true rfl, Nat.le_of_ble_eq_true rfl⟩ ⟨rfl, rfl⟩ rfl (Nat.le_of_ble_eq_true rfl) dX9_order_1 ?_
  refine x_if_ne C 9 dX9_order_4 rfl (fun hc => ?_) (fun hc => ?_)
  · replace h := x_itn hc h
    refine x_aload_n C 0 dX9_order_9 rfl rfl ?_
    obtain ⟨v2, σ2, hc2, h⟩ := x_b_some h
    refine x_callV C (n := 0) (c_X9_isAwake hG hc2) kM_0 (by decide) rfl wd_1605 wd_1607 wd_81 wd_111 wd_1608 (by decide +kernel) rfl ⟨Nat.le_of_ble_eq_true rfl, Nat.le_of_ble_eq_true rfl⟩ ⟨rfl, rfl⟩ rfl (Nat.le_of_ble_eq_true rfl) dX9_order_10 ?_
    refine x_if_ne C 19 dX9_order_13 rfl (fun hc => ?_) (fun hc => ?_)
    · replace h := x_itn hc h
      refine x_aload_n C 0 dX9_order_19 rfl rfl ?_
      refine x_iload_n C 1 dX9_order_20 rfl rfl ?_
      obtain ⟨v3, σ3, hc3, h⟩ := x_b_some h
      refine x_callV C (n := 1) (c_X9_fillsOrders hG hc3) kM_0 (by decide) rfl wd_1660 wd_1662 wd_86 wd_111 wd_1663 (by decide +kernel) rfl ⟨Nat.le_of_ble_eq_true rfl, Nat.le_of_ble_eq_true rfl⟩ ⟨rfl, rfl⟩ rfl (Nat.le_of_ble_eq_true rfl) dX9_order_21 ?_
      refine x_aload_n C 0 dX9_order_24 rfl rfl ?_
      refine x_getI C (k := 61) kM_0 (by decide) rfl x_in9 (by decide) (by decide) rfl rfl wd_1269 dX9_order_25 ?_
      obtain ⟨rfl, rfl⟩ := x_ret h
      exact x_iret C dX9_order_28
    · replace h := x_itp hc h
      refine x_bipush C (-2 : Int32) dX9_order_16 (by decide) ?_
      obtain ⟨rfl, rfl⟩ := x_ret h
      exact x_iret C dX9_order_18
  · replace h := x_itp hc h
    refine x_iconst C (-1 : Int32) dX9_order_7 (by decide) ?_
    obtain ⟨rfl, rfl⟩ := x_ret h
    exact x_iret C dX9_order_8
abbrev rm_X9_orderAt : Room := { frames := 8, cells := 0, slots := 0, locals := 189 }
set_option maxHeartbeats 4000000 in
set_option maxRecDepth 100000 in
theorem c_X9_orderAt (hG : x_OK TM G) {x1 : Int32} {x2 : Int32} {σ τ : x_Hp} {r : Int32} (h : F_X9_orderAt x1 x2 σ = some (r, τ)) : x_M l TM G yX9_orderAt cX9_orderAt 3 (some .int) rm_X9_orderAt [.ref (x_ad G 0), .int x1, .int x2] σ (some (.int r)) τ := by
  refine x_M.of hG (lv := [(0, .ref (x_ad G 0)), (1, .int x1), (2, .int x2)]) (by decide) (Nat.le_of_ble_eq_true rfl) rfl (fun p e s m below meth c C => ?_)
  rw [F_X9_orderAt] at h
  refine x_iload_n C 1 dX9_orderAt_0 rfl rfl ?_
  obtain ⟨v1, σ1, hc1, h⟩ := x_b_some h
  refine x_callS C (n := 1) (c_X9_isShort hG hc1) wd_1657 wd_1658 wd_111 wd_1659 (by decide +kernel) rfl ⟨Nat.le_of_ble_eq_true rfl, Nat.le_of_ble_eq_true rfl⟩ ⟨rfl, rfl⟩ rfl (Nat.le_of_ble_eq_true rfl) dX9_orderAt_1 ?_
  refine x_if_eq C 11 dX9_orderAt_4 rfl (fun hc => ?_) (fun hc => ?_)
  · replace h := x_itp hc h
    refine x_iconst C (-1 : Int32) dX9_orderAt_11 (by decide) ?_
    obtain ⟨rfl, rfl⟩ := x_ret h
    exact x_iret C dX9_orderAt_12
  · replace h := x_itn hc h
    refine x_iload_n C 2 dX9_orderAt_7 rfl rfl ?_
    refine x_if_ge C 13 dX9_orderAt_8 rfl (fun hc => ?_) (fun hc => ?_)
    · replace h := x_itp hc h
      refine x_aload_n C 0 dX9_orderAt_13 rfl rfl ?_
      obtain ⟨v2, σ2, hc2, h⟩ := x_b_some h
      refine x_callV C (n := 0) (c_X9_isAwake hG hc2) kM_0 (by decide) rfl wd_1605 wd_1607 wd_81 wd_111 wd_1608 (by decide +kernel) rfl ⟨Nat.le_of_ble_eq_true rfl, Nat.le_of_ble_eq_true rfl⟩ ⟨rfl, rfl⟩ rfl (Nat.le_of_ble_eq_true rfl) dX9_orderAt_14 ?_
      refine x_if_ne C 23 dX9_orderAt_17 rfl (fun hc => ?_) (fun hc => ?_)
      · replace h := x_itn hc h
        refine x_aload_n C 0 dX9_orderAt_23 rfl rfl ?_
        refine x_iload_n C 1 dX9_orderAt_24 rfl rfl ?_
        obtain ⟨v3, σ3, hc3, h⟩ := x_b_some h
        refine x_callV C (n := 1) (c_X9_fillsOrders hG hc3) kM_0 (by decide) rfl wd_1660 wd_1662 wd_86 wd_111 wd_1663 (by decide +kernel) rfl ⟨Nat.le_of_ble_eq_true rfl, Nat.le_of_ble_eq_true rfl⟩ ⟨rfl, rfl⟩ rfl (Nat.le_of_ble_eq_true rfl) dX9_orderAt_25 ?_
        refine x_iload_n C 2 dX9_orderAt_28 rfl rfl ?_
        refine x_aload_n C 0 dX9_orderAt_29 rfl rfl ?_
        refine x_getRq C (k := 23) kM_0 (by decide) rfl x_in9 (by decide) (by decide) rfl rfl wd_1231 rfM_0_23 dX9_orderAt_30 ?_
        refine x_aload_n C 0 dX9_orderAt_33 rfl rfl ?_
        refine x_getI C (k := 18) kM_0 (by decide) rfl x_in9 (by decide) (by decide) rfl rfl wd_1226 dX9_orderAt_34 ?_
        obtain ⟨hi4, h⟩ := x_gd_some h
        refine x_iald C kM_10 (x_inl lnM_10 hi4) dX9_orderAt_37 ?_
        refine x_icmp_ge C 50 dX9_orderAt_38 rfl (fun hc => ?_) (fun hc => ?_)
        · replace h := x_itp hc h
          refine x_iconst C (-1 : Int32) dX9_orderAt_50 (by decide) ?_
          obtain ⟨rfl, rfl⟩ := x_ret h
          exact x_iret C dX9_orderAt_51
        · replace h := x_itn hc h
          refine x_aload_n C 0 dX9_orderAt_41 rfl rfl ?_
          refine x_getRq C (k := 62) kM_0 (by decide) rfl x_in9 (by decide) (by decide) rfl rfl wd_1270 rfM_0_62 dX9_orderAt_42 ?_
          refine x_iload_n C 2 dX9_orderAt_45 rfl rfl ?_
          obtain ⟨hi5, h⟩ := x_gd_some h
          refine x_iald C kM_38 (x_inl lnM_38 hi5) dX9_orderAt_46 ?_
          refine x_goto C 51 dX9_orderAt_47 rfl ?_
          obtain ⟨rfl, rfl⟩ := x_ret h
          exact x_iret C dX9_orderAt_51
      · replace h := x_itp hc h
        refine x_bipush C (-2 : Int32) dX9_orderAt_20 (by decide) ?_
        obtain ⟨rfl, rfl⟩ := x_ret h
        exact x_iret C dX9_orderAt_22
    · replace h := x_itn hc h
      refine x_iconst C (-1 : Int32) dX9_orderAt_11 (by decide) ?_
      obtain ⟨rfl, rfl⟩ := x_ret h
      exact x_iret C dX9_orderAt_12
abbrev rm_X9_sitters : Room := { frames := 8, cells := 0, slots := 0, locals := 189 }
set_option maxHeartbeats 4000000 in
set_option maxRecDepth 100000 in
theorem c_X9_sitters (hG : x_OK TM G) {x1 : Int32} {σ τ : x_Hp} {r : Int32} (h : F_X9_sitters x1 σ = some (r, τ)) : x_M l TM G yX9_sitters cX9_sitters 2 (some .int) rm_X9_sitters [.ref (x_ad G 0), .int x1] σ (some (.int r)) τ := by
  refine x_M.of hG (lv := [(0, .ref (x_ad G 0)), (1, .int x1)]) (by decide) (Nat.le_of_ble_eq_true rfl) rfl (fun p e s m below meth c C => ?_)
  rw [F_X9_sitters] at h
  refine x_iload_n C 1 dX9_sitters_0 rfl rfl ?_
  obtain ⟨v1, σ1, hc1, h⟩ := x_b_some h
  refine x_callS C (n := 1) (c_X9_isShort hG hc1) wd_1657 wd_1658 wd_111 wd_1659 (by decide +kernel) rfl ⟨Nat.le_of_ble_eq_true rfl, Nat.le_of_ble_eq_true rfl⟩ ⟨rfl, rfl⟩ rfl (Nat.le_of_ble_eq_true rfl) dX9_sitters_1 ?_
  refine x_if_ne C 9 dX9_sitters_4 rfl (fun hc => ?_) (fun hc => ?_)
  · replace h := x_itn hc h
    refine x_aload_n C 0 dX9_sitters_9 rfl rfl ?_
    obtain ⟨v2, σ2, hc2, h⟩ := x_b_some h
    refine x_callV C (n := 0) (c_X9_isAwake hG hc2) kM_0 (by decide) rfl wd_1605 wd_1607 wd_81 wd_111 wd_1608 (by decide +kernel) rfl ⟨Nat.le_of_ble_eq_true rfl, Nat.le_of_ble_eq_true rfl⟩ ⟨rfl, rfl⟩ rfl (Nat.le_of_ble_eq_true rfl) dX9_sitters_10 ?_
    refine x_if_ne C 19 dX9_sitters_13 rfl (fun hc => ?_) (fun hc => ?_)
    · replace h := x_itn hc h
      refine x_aload_n C 0 dX9_sitters_19 rfl rfl ?_
      refine x_iload_n C 1 dX9_sitters_20 rfl rfl ?_
      obtain ⟨v3, σ3, hc3, h⟩ := x_b_some h
      refine x_callV C (n := 1) (c_X9_fillsOrders hG hc3) kM_0 (by decide) rfl wd_1660 wd_1662 wd_86 wd_111 wd_1663 (by decide +kernel) rfl ⟨Nat.le_of_ble_eq_true rfl, Nat.le_of_ble_eq_true rfl⟩ ⟨rfl, rfl⟩ rfl (Nat.le_of_ble_eq_true rfl) dX9_sitters_21 ?_
      refine x_aload_n C 0 dX9_sitters_24 rfl rfl ?_
      refine x_getI C (k := 63) kM_0 (by decide) rfl x_in9 (by decide) (by decide) rfl rfl wd_1271 dX9_sitters_25 ?_
      obtain ⟨rfl, rfl⟩ := x_ret h
      exact x_iret C dX9_sitters_28
    · replace h := x_itp hc h
      refine x_bipush C (-2 : Int32) dX9_sitters_16 (by decide) ?_
      obtain ⟨rfl, rfl⟩ := x_ret h
      exact x_iret C dX9_sitters_18
  · replace h := x_itp hc h
    refine x_iconst C (-1 : Int32) dX9_sitters_7 (by decide) ?_
    obtain ⟨rfl, rfl⟩ := x_ret h
    exact x_iret C dX9_sitters_8
abbrev rm_X9_luck : Room := { frames := 8, cells := 0, slots := 0, locals := 189 }
set_option maxHeartbeats 4000000 in
set_option maxRecDepth 100000 in
theorem c_X9_luck (hG : x_OK TM G) {x1 : Int32} {x2 : Int32} {σ τ : x_Hp} {r : Int32} (h : F_X9_luck x1 x2 σ = some (r, τ)) : x_M l TM G yX9_luck cX9_luck 3 (some .int) rm_X9_luck [.ref (x_ad G 0), .int x1, .int x2] σ (some (.int r)) τ := by
  refine x_M.of hG (lv := [(0, .ref (x_ad G 0)), (1, .int x1), (2, .int x2)]) (by decide) (Nat.le_of_ble_eq_true rfl) rfl (fun p e s m below meth c C => ?_)
  rw [F_X9_luck] at h
  refine x_aload_n C 0 dX9_luck_0 rfl rfl ?_
  refine x_iload_n C 1 dX9_luck_1 rfl rfl ?_
  obtain ⟨v1, σ1, hc1, h⟩ := x_b_some h
  refine x_callV C (n := 1) (c_X9_isAunt hG hc1) kM_0 (by decide) rfl wd_1538 wd_1540 wd_69 wd_111 wd_1541 (by decide +kernel) rfl ⟨Nat.le_of_ble_eq_true rfl, Nat.le_of_ble_eq_true rfl⟩ ⟨rfl, rfl⟩ rfl (Nat.le_of_ble_eq_true rfl) dX9_luck_2 ?_
  refine x_if_eq C 15 dX9_luck_5 rfl (fun hc => ?_) (fun hc => ?_)
  · replace h := x_itp hc h
    refine x_iconst C (-1 : Int32) dX9_luck_15 (by decide) ?_
    obtain ⟨rfl, rfl⟩ := x_ret h
    exact x_iret C dX9_luck_16
  · replace h := x_itn hc h
    refine x_iload_n C 2 dX9_luck_8 rfl rfl ?_
    obtain ⟨v2, σ2, hc2, h⟩ := x_b_some h
    refine x_callS C (n := 1) (c_X9_isShort hG hc2) wd_1657 wd_1658 wd_111 wd_1659 (by decide +kernel) rfl ⟨Nat.le_of_ble_eq_true rfl, Nat.le_of_ble_eq_true rfl⟩ ⟨rfl, rfl⟩ rfl (Nat.le_of_ble_eq_true rfl) dX9_luck_9 ?_
    refine x_if_ne C 17 dX9_luck_12 rfl (fun hc => ?_) (fun hc => ?_)
    · replace h := x_itn hc h
      refine x_aload_n C 0 dX9_luck_17 rfl rfl ?_
      obtain ⟨v3, σ3, hc3, h⟩ := x_b_some h
      refine x_callV C (n := 0) (c_X9_isAwake hG hc3) kM_0 (by decide) rfl wd_1605 wd_1607 wd_81 wd_111 wd_1608 (by decide +kernel) rfl ⟨Nat.le_of_ble_eq_true rfl, Nat.le_of_ble_eq_true rfl⟩ ⟨rfl, rfl⟩ rfl (Nat.le_of_ble_eq_true rfl) dX9_luck_18 ?_
      refine x_if_ne C 27 dX9_luck_21 rfl (fun hc => ?_) (fun hc => ?_)
      · replace h := x_itn hc h
        refine x_aload_n C 0 dX9_luck_27 rfl rfl ?_
        refine x_iload_n C 2 dX9_luck_28 rfl rfl ?_
        obtain ⟨v4, σ4, hc4, h⟩ := x_b_some h
        refine x_callV C (n := 1) (c_X9_fillsOrders hG hc4) kM_0 (by decide) rfl wd_1660 wd_1662 wd_86 wd_111 wd_1663 (by decide +kernel) rfl ⟨Nat.le_of_ble_eq_true rfl, Nat.le_of_ble_eq_true rfl⟩ ⟨rfl, rfl⟩ rfl (Nat.le_of_ble_eq_true rfl) dX9_luck_29 ?_
        refine x_aload_n C 0 dX9_luck_32 rfl rfl ?_
        refine x_getRq C (k := 64) kM_0 (by decide) rfl x_in9 (by decide) (by decide) rfl rfl wd_1272 rfM_0_64 dX9_luck_33 ?_
        refine x_iload_n C 1 dX9_luck_36 rfl rfl ?_
        obtain ⟨hi5, h⟩ := x_gd_some h
        refine x_iald C kM_39 (x_inl lnM_39 hi5) dX9_luck_37 ?_
        obtain ⟨rfl, rfl⟩ := x_ret h
        exact x_iret C dX9_luck_38
      · replace h := x_itp hc h
        refine x_bipush C (-2 : Int32) dX9_luck_24 (by decide) ?_
        obtain ⟨rfl, rfl⟩ := x_ret h
        exact x_iret C dX9_luck_26
    · replace h := x_itp hc h
      refine x_iconst C (-1 : Int32) dX9_luck_15 (by decide) ?_
      obtain ⟨rfl, rfl⟩ := x_ret h
      exact x_iret C dX9_luck_16
abbrev rm_X9_fairest : Room := { frames := 8, cells := 0, slots := 0, locals := 189 }
set_option maxHeartbeats 4000000 in
set_option maxRecDepth 100000 in
theorem c_X9_fairest (hG : x_OK TM G) {x1 : Int32} {x2 : Int32} {σ τ : x_Hp} {r : Int32} (h : F_X9_fairest x1 x2 σ = some (r, τ)) : x_M l TM G yX9_fairest cX9_fairest 3 (some .int) rm_X9_fairest [.ref (x_ad G 0), .int x1, .int x2] σ (some (.int r)) τ := by
  refine x_M.of hG (lv := [(0, .ref (x_ad G 0)), (1, .int x1), (2, .int x2)]) (by decide) (Nat.le_of_ble_eq_true rfl) rfl (fun p e s m below meth c C => ?_)
  rw [F_X9_fairest] at h
  refine x_iload_n C 1 dX9_fairest_0 rfl rfl ?_
  obtain ⟨v1, σ1, hc1, h⟩ := x_b_some h
  refine x_callS C (n := 1) (c_X9_isShort hG hc1) wd_1657 wd_1658 wd_111 wd_1659 (by decide +kernel) rfl ⟨Nat.le_of_ble_eq_true rfl, Nat.le_of_ble_eq_true rfl⟩ ⟨rfl, rfl⟩ rfl (Nat.le_of_ble_eq_true rfl) dX9_fairest_1 ?_
  refine x_if_eq C 16 dX9_fairest_4 rfl (fun hc => ?_) (fun hc => ?_)
  · replace h := x_itp hc h
    refine x_iconst C (-1 : Int32) dX9_fairest_16 (by decide) ?_
    obtain ⟨rfl, rfl⟩ := x_ret h
    exact x_iret C dX9_fairest_17
  · replace h := x_itn hc h
    refine x_iload_n C 2 dX9_fairest_7 rfl rfl ?_
    refine x_iconst C (0 : Int32) dX9_fairest_8 (by decide) ?_
    refine x_iconst C (1 : Int32) dX9_fairest_9 (by decide) ?_
    obtain ⟨v2, σ2, hc2, h⟩ := x_b_some h
    refine x_callS C (n := 3) (c_X9_in hG hc2) wd_1531 wd_1532 wd_111 wd_1533 (by decide +kernel) rfl ⟨Nat.le_of_ble_eq_true rfl, Nat.le_of_ble_eq_true rfl⟩ ⟨rfl, rfl⟩ rfl (Nat.le_of_ble_eq_true rfl) dX9_fairest_10 ?_
    refine x_if_ne C 18 dX9_fairest_13 rfl (fun hc => ?_) (fun hc => ?_)
    · replace h := x_itn hc h
      refine x_aload_n C 0 dX9_fairest_18 rfl rfl ?_
      obtain ⟨v3, σ3, hc3, h⟩ := x_b_some h
      refine x_callV C (n := 0) (c_X9_isAwake hG hc3) kM_0 (by decide) rfl wd_1605 wd_1607 wd_81 wd_111 wd_1608 (by decide +kernel) rfl ⟨Nat.le_of_ble_eq_true rfl, Nat.le_of_ble_eq_true rfl⟩ ⟨rfl, rfl⟩ rfl (Nat.le_of_ble_eq_true rfl) dX9_fairest_19 ?_
      refine x_if_ne C 28 dX9_fairest_22 rfl (fun hc => ?_) (fun hc => ?_)
      · replace h := x_itn hc h
        refine x_aload_n C 0 dX9_fairest_28 rfl rfl ?_
        refine x_iload_n C 1 dX9_fairest_29 rfl rfl ?_
        obtain ⟨v4, σ4, hc4, h⟩ := x_b_some h
        refine x_callV C (n := 1) (c_X9_fillsOrders hG hc4) kM_0 (by decide) rfl wd_1660 wd_1662 wd_86 wd_111 wd_1663 (by decide +kernel) rfl ⟨Nat.le_of_ble_eq_true rfl, Nat.le_of_ble_eq_true rfl⟩ ⟨rfl, rfl⟩ rfl (Nat.le_of_ble_eq_true rfl) dX9_fairest_30 ?_
        refine x_iload_n C 2 dX9_fairest_33 rfl rfl ?_
        refine x_if_ne C 44 dX9_fairest_34 rfl (fun hc => ?_) (fun hc => ?_)
        · replace h := x_itn hc h
          refine x_aload_n C 0 dX9_fairest_44 rfl rfl ?_
          refine x_getI C (k := 66) kM_0 (by decide) rfl x_in9 (by decide) (by decide) rfl rfl wd_1274 dX9_fairest_45 ?_
          obtain ⟨rfl, rfl⟩ := x_ret h
          exact x_iret C dX9_fairest_48
        · replace h := x_itp hc h
          refine x_aload_n C 0 dX9_fairest_37 rfl rfl ?_
          refine x_getI C (k := 65) kM_0 (by decide) rfl x_in9 (by decide) (by decide) rfl rfl wd_1273 dX9_fairest_38 ?_
          refine x_goto C 48 dX9_fairest_41 rfl ?_
          obtain ⟨rfl, rfl⟩ := x_ret h
          exact x_iret C dX9_fairest_48
      · replace h := x_itp hc h
        refine x_bipush C (-2 : Int32) dX9_fairest_25 (by decide) ?_
        obtain ⟨rfl, rfl⟩ := x_ret h
        exact x_iret C dX9_fairest_27
    · replace h := x_itp hc h
      refine x_iconst C (-1 : Int32) dX9_fairest_16 (by decide) ?_
      obtain ⟨rfl, rfl⟩ := x_ret h
      exact x_iret C dX9_fairest_17
abbrev rm_X9_leftOut : Room := { frames := 6, cells := 0, slots := 0, locals := 144 }
set_option maxHeartbeats 4000000 in
set_option maxRecDepth 100000 in
theorem w_X9_leftOut_117 {r : Int32} {τ : x_Hp} (C : x_C p s m args meth c cX9_leftOut 7 (some .int) yX9_leftOut.cls TM G) {k36 : Int32 → Int32 → Int32 → Int32 → Int32 → x_Hp → Option (Int32 × x_Hp)} (hk36 : ∀ (x1 : Int32) (x2 : Int32) (x3 : Int32) (x4 : Int32) (x5 : Int32) (σ : x_Hp) (h : k36 x1 x2 x3 x4 x5 σ = some (r, τ)), x_W p l e rm_X9_leftOut s m args below meth c (MQ below (x_Q TM G (some (.int r)) τ) args s 0 0 (x_A TM G)) TM G 7 36 [(0, .ref (x_ad G 0)), (1, .int x1), (2, .int x2), (3, .int x3), (4, .int x4), (5, .int x5)] [] σ) (x1 : Int32) (x2 : Int32) (x3 : Int32) (x4 : Int32) (x5 : Int32) (σ : x_Hp) (h : F_X9_leftOut_117 k36 x1 x2 x3 x4 x5 σ = some (r, τ)) : x_W p l e rm_X9_leftOut s m args below meth c (MQ below (x_Q TM G (some (.int r)) τ) args s 0 0 (x_A TM G)) TM G 7 117 [(0, .ref (x_ad G 0)), (1, .int x1), (2, .int x2), (3, .int x3), (4, .int x4), (5, .int x5)] [] σ := by
  have hG : x_OK TM G := C.2.2.2.2.2.2.2.2.1
  rw [F_X9_leftOut_117] at h
  refine x_iinc C 5 (x5 + (1 : Int32)) [(5, .int (x5 + (1 : Int32))), (0, .ref (x_ad G 0)), (1, .int x1), (2, .int x2), (3, .int x3), (4, .int x4)] dX9_leftOut_117 rfl rfl (by decide) rfl ?_
  refine x_goto C 36 dX9_leftOut_120 rfl ?_
  exact x_sub [1, 2, 3, 4, 5, 0] rfl (hk36 x1 x2 x3 x4 (x5 + (1 : Int32)) σ h)
set_option maxHeartbeats 4000000 in
set_option maxRecDepth 100000 in
theorem w_X9_leftOut_108 {r : Int32} {τ : x_Hp} (C : x_C p s m args meth c cX9_leftOut 7 (some .int) yX9_leftOut.cls TM G) {k36 : Int32 → Int32 → Int32 → Int32 → Int32 → x_Hp → Option (Int32 × x_Hp)} (hk36 : ∀ (x1 : Int32) (x2 : Int32) (x3 : Int32) (x4 : Int32) (x5 : Int32) (σ : x_Hp) (h : k36 x1 x2 x3 x4 x5 σ = some (r, τ)), x_W p l e rm_X9_leftOut s m args below meth c (MQ below (x_Q TM G (some (.int r)) τ) args s 0 0 (x_A TM G)) TM G 7 36 [(0, .ref (x_ad G 0)), (1, .int x1), (2, .int x2), (3, .int x3), (4, .int x4), (5, .int x5)] [] σ) (x1 : Int32) (x2 : Int32) (x5 : Int32) (σ : x_Hp) (h : F_X9_leftOut_108 k36 x1 x2 x5 σ = some (r, τ)) : x_W p l e rm_X9_leftOut s m args below meth c (MQ below (x_Q TM G (some (.int r)) τ) args s 0 0 (x_A TM G)) TM G 7 108 [(0, .ref (x_ad G 0)), (1, .int x1), (2, .int x2), (5, .int x5)] [] σ := by
  have hG : x_OK TM G := C.2.2.2.2.2.2.2.2.1
  rw [F_X9_leftOut_108] at h
  refine x_iload C 3 dX9_leftOut_108 rfl ?_
  refine x_istore_n C [(3, .int x5), (0, .ref (x_ad G 0)), (1, .int x1), (2, .int x2), (5, .int x5)] dX9_leftOut_110 rfl (by decide) rfl ?_
  refine x_aload_n C 1 dX9_leftOut_111 rfl rfl ?_
  refine x_getI C (k := 56) kM_0 (by decide) rfl x_in9 (by decide) (by decide) rfl rfl wd_1264 dX9_leftOut_112 ?_
  refine x_istore C [(4, .int (σ.1 0 56)), (3, .int x5), (0, .ref (x_ad G 0)), (1, .int x1), (2, .int x2), (5, .int x5)] dX9_leftOut_115 (by decide) rfl ?_
  exact x_sub [2, 3, 4, 1, 0, 5] rfl (w_X9_leftOut_117 C hk36 x1 x2 x5 (σ.1 0 56) x5 σ h)
set_option maxHeartbeats 4000000 in
set_option maxRecDepth 100000 in
theorem w_X9_leftOut_85 {r : Int32} {τ : x_Hp} (C : x_C p s m args meth c cX9_leftOut 7 (some .int) yX9_leftOut.cls TM G) {k36 : Int32 → Int32 → Int32 → Int32 → Int32 → x_Hp → Option (Int32 × x_Hp)} (hk36 : ∀ (x1 : Int32) (x2 : Int32) (x3 : Int32) (x4 : Int32) (x5 : Int32) (σ : x_Hp) (h : k36 x1 x2 x3 x4 x5 σ = some (r, τ)), x_W p l e rm_X9_leftOut s m args below meth c (MQ below (x_Q TM G (some (.int r)) τ) args s 0 0 (x_A TM G)) TM G 7 36 [(0, .ref (x_ad G 0)), (1, .int x1), (2, .int x2), (3, .int x3), (4, .int x4), (5, .int x5)] [] σ) {k57 : Int32 → Int32 → Int32 → Int32 → Int32 → Int32 → x_Hp → Option (Int32 × x_Hp)} (hk57 : ∀ (x1 : Int32) (x2 : Int32) (x3 : Int32) (x4 : Int32) (x5 : Int32) (x6 : Int32) (σ : x_Hp) (h : k57 x1 x2 x3 x4 x5 x6 σ = some (r, τ)), x_W p l e rm_X9_leftOut s m args below meth c (MQ below (x_Q TM G (some (.int r)) τ) args s 0 0 (x_A TM G)) TM G 7 57 [(0, .ref (x_ad G 0)), (1, .int x1), (2, .int x2), (3, .int x3), (4, .int x4), (5, .int x5), (6, .int x6)] [] σ) (x1 : Int32) (x2 : Int32) (x3 : Int32) (x4 : Int32) (x5 : Int32) (x6 : Int32) (σ : x_Hp) (h : F_X9_leftOut_85 k36 k57 x1 x2 x3 x4 x5 x6 σ = some (r, τ)) : x_W p l e rm_X9_leftOut s m args below meth c (MQ below (x_Q TM G (some (.int r)) τ) args s 0 0 (x_A TM G)) TM G 7 85 [(0, .ref (x_ad G 0)), (1, .int x1), (2, .int x2), (3, .int x3), (4, .int x4), (5, .int x5), (6, .int x6)] [] σ := by
  have hG : x_OK TM G := C.2.2.2.2.2.2.2.2.1
  rw [F_X9_leftOut_85] at h
  refine x_iinc C 6 (x6 + (1 : Int32)) [(6, .int (x6 + (1 : Int32))), (0, .ref (x_ad G 0)), (1, .int x1), (2, .int x2), (3, .int x3), (4, .int x4), (5, .int x5)] dX9_leftOut_85 rfl rfl (by decide) rfl ?_
  refine x_goto C 57 dX9_leftOut_88 rfl ?_
  exact x_sub [1, 2, 3, 4, 5, 6, 0] rfl (hk57 x1 x2 x3 x4 x5 (x6 + (1 : Int32)) σ h)
set_option maxHeartbeats 4000000 in
set_option maxRecDepth 100000 in
theorem w_X9_leftOut_57 {r : Int32} {τ : x_Hp} (C : x_C p s m args meth c cX9_leftOut 7 (some .int) yX9_leftOut.cls TM G) {k36 : Int32 → Int32 → Int32 → Int32 → Int32 → x_Hp → Option (Int32 × x_Hp)} (hk36 : ∀ (x1 : Int32) (x2 : Int32) (x3 : Int32) (x4 : Int32) (x5 : Int32) (σ : x_Hp) (h : k36 x1 x2 x3 x4 x5 σ = some (r, τ)), x_W p l e rm_X9_leftOut s m args below meth c (MQ below (x_Q TM G (some (.int r)) τ) args s 0 0 (x_A TM G)) TM G 7 36 [(0, .ref (x_ad G 0)), (1, .int x1), (2, .int x2), (3, .int x3), (4, .int x4), (5, .int x5)] [] σ) : ∀ (n : Nat) (x1 : Int32) (x2 : Int32) (x3 : Int32) (x4 : Int32) (x5 : Int32) (x6 : Int32) (σ : x_Hp) (h : F_X9_leftOut_57 k36 n x1 x2 x3 x4 x5 x6 σ = some (r, τ)), x_W p l e rm_X9_leftOut s m args below meth c (MQ below (x_Q TM G (some (.int r)) τ) args s 0 0 (x_A TM G)) TM G 7 57 [(0, .ref (x_ad G 0)), (1, .int x1), (2, .int x2), (3, .int x3), (4, .int x4), (5, .int x5), (6, .int x6)] [] σ := by
  intro n
  induction n with
  | zero => intro x1 x2 x3 x4 x5 x6 σ  h; cases h
  | succ n ih =>
    intro x1 x2 x3 x4 x5 x6 σ  h
    have hG : x_OK TM G := C.2.2.2.2.2.2.2.2.1
    rw [F_X9_leftOut_57] at h
    refine x_iload C 6 dX9_leftOut_57 rfl ?_
    refine x_aload_n C 0 dX9_leftOut_59 rfl rfl ?_
    refine x_getRq C (k := 23) kM_0 (by decide) rfl x_in9 (by decide) (by decide) rfl rfl wd_1231 rfM_0_23 dX9_leftOut_60 ?_
    refine x_aload_n C 0 dX9_leftOut_63 rfl rfl ?_
    refine x_getI C (k := 18) kM_0 (by decide) rfl x_in9 (by decide) (by decide) rfl rfl wd_1226 dX9_leftOut_64 ?_
    obtain ⟨hi6, h⟩ := x_gd_some h
    refine x_iald C kM_10 (x_inl lnM_10 hi6) dX9_leftOut_67 ?_
    refine x_icmp_ge C 91 dX9_leftOut_68 rfl (fun hc => ?_) (fun hc => ?_)
    · replace h := x_itp hc h
      refine x_iload C 4 dX9_leftOut_91 rfl ?_
      refine x_if_lt C 108 dX9_leftOut_93 rfl (fun hc => ?_) (fun hc => ?_)
      · replace h := x_itp hc h
        exact x_sub [0, 1, 2, 5] rfl (w_X9_leftOut_108 C hk36 x1 x2 x5 σ h)
      · replace h := x_itn hc h
        refine x_aload_n C 0 dX9_leftOut_96 rfl rfl ?_
        refine x_getI C (k := 56) kM_0 (by decide) rfl x_in9 (by decide) (by decide) rfl rfl wd_1264 dX9_leftOut_97 ?_
        refine x_iload C 4 dX9_leftOut_100 rfl ?_
        refine x_icmp_lt C 108 dX9_leftOut_102 rfl (fun hc => ?_) (fun hc => ?_)
        · replace h := x_itp hc h
          exact x_sub [0, 1, 2, 5] rfl (w_X9_leftOut_108 C hk36 x1 x2 x5 σ h)
        · replace h := x_itn hc h
          refine x_goto C 117 dX9_leftOut_105 rfl ?_
          exact x_sub [0, 1, 2, 3, 4, 5] rfl (w_X9_leftOut_117 C hk36 x1 x2 x3 x4 x5 σ h)
    · replace h := x_itn hc h
      refine x_iload C 6 dX9_leftOut_71 rfl ?_
      refine x_iload C 5 dX9_leftOut_73 rfl ?_
      refine x_icmp_eq C 85 dX9_leftOut_75 rfl (fun hc => ?_) (fun hc => ?_)
      · replace h := x_itp hc h
        exact x_sub [0, 1, 2, 3, 4, 5, 6] rfl (w_X9_leftOut_85 C hk36 ih x1 x2 x3 x4 x5 x6 σ h)
      · replace h := x_itn hc h
        refine x_aload_n C 0 dX9_leftOut_78 rfl rfl ?_
        refine x_iload C 6 dX9_leftOut_79 rfl ?_
        refine x_iload_n C 1 dX9_leftOut_81 rfl rfl ?_
        obtain ⟨v7, σ7, hc7, h⟩ := x_b_some h
        refine x_callV C (n := 2) (c_X9_gives hG hc7) kM_0 (by decide) rfl wd_1676 wd_1678 wd_90 wd_111 wd_1679 (by decide +kernel) rfl ⟨Nat.le_of_ble_eq_true rfl, Nat.le_of_ble_eq_true rfl⟩ ⟨rfl, rfl⟩ rfl (Nat.le_of_ble_eq_true rfl) dX9_leftOut_82 ?_
        exact x_sub [0, 1, 2, 3, 4, 5, 6] rfl (w_X9_leftOut_85 C hk36 ih x1 x2 x3 x4 x5 x6 σ7 h)
set_option maxHeartbeats 4000000 in
set_option maxRecDepth 100000 in
theorem w_X9_leftOut_36 {r : Int32} {τ : x_Hp} (C : x_C p s m args meth c cX9_leftOut 7 (some .int) yX9_leftOut.cls TM G) : ∀ (n : Nat) (x1 : Int32) (x2 : Int32) (x3 : Int32) (x4 : Int32) (x5 : Int32) (σ : x_Hp) (h : F_X9_leftOut_36 n x1 x2 x3 x4 x5 σ = some (r, τ)), x_W p l e rm_X9_leftOut s m args below meth c (MQ below (x_Q TM G (some (.int r)) τ) args s 0 0 (x_A TM G)) TM G 7 36 [(0, .ref (x_ad G 0)), (1, .int x1), (2, .int x2), (3, .int x3), (4, .int x4), (5, .int x5)] [] σ := by
  intro n
  induction n with
  | zero => intro x1 x2 x3 x4 x5 σ  h; cases h
  | succ n ih =>
    intro x1 x2 x3 x4 x5 σ  h
    have hG : x_OK TM G := C.2.2.2.2.2.2.2.2.1
    rw [F_X9_leftOut_36] at h
    refine x_iload C 5 dX9_leftOut_36 rfl ?_
    refine x_aload_n C 0 dX9_leftOut_38 rfl rfl ?_
    refine x_getRq C (k := 23) kM_0 (by decide) rfl x_in9 (by decide) (by decide) rfl rfl wd_1231 rfM_0_23 dX9_leftOut_39 ?_
    refine x_aload_n C 0 dX9_leftOut_42 rfl rfl ?_
    refine x_getI C (k := 18) kM_0 (by decide) rfl x_in9 (by decide) (by decide) rfl rfl wd_1226 dX9_leftOut_43 ?_
    obtain ⟨hi4, h⟩ := x_gd_some h
    refine x_iald C kM_10 (x_inl lnM_10 hi4) dX9_leftOut_46 ?_
    refine x_icmp_ge C 123 dX9_leftOut_47 rfl (fun hc => ?_) (fun hc => ?_)
    · replace h := x_itp hc h
      refine x_iload_n C 2 dX9_leftOut_123 rfl rfl ?_
      refine x_if_ne C 131 dX9_leftOut_124 rfl (fun hc => ?_) (fun hc => ?_)
      · replace h := x_itn hc h
        refine x_iload C 4 dX9_leftOut_131 rfl ?_
        obtain ⟨rfl, rfl⟩ := x_ret h
        exact x_iret C dX9_leftOut_133
      · replace h := x_itp hc h
        refine x_iload_n C 3 dX9_leftOut_127 rfl rfl ?_
        refine x_goto C 133 dX9_leftOut_128 rfl ?_
        obtain ⟨rfl, rfl⟩ := x_ret h
        exact x_iret C dX9_leftOut_133
    · replace h := x_itn hc h
      refine x_aload_n C 0 dX9_leftOut_50 rfl rfl ?_
      obtain ⟨v5, σ5, hc5, h⟩ := x_b_some h
      refine x_callV C (n := 0) (c_X9_starts hG hc5) kM_0 (by decide) rfl wd_1672 wd_1674 wd_89 wd_111 wd_1675 (by decide +kernel) rfl ⟨Nat.le_of_ble_eq_true rfl, Nat.le_of_ble_eq_true rfl⟩ ⟨rfl, rfl⟩ rfl (Nat.le_of_ble_eq_true rfl) dX9_leftOut_51 ?_
      refine x_iconst C (0 : Int32) dX9_leftOut_54 (by decide) ?_
      refine x_istore C [(6, .int (0 : Int32)), (0, .ref (x_ad G 0)), (1, .int x1), (2, .int x2), (3, .int x3), (4, .int x4), (5, .int x5)] dX9_leftOut_55 (by decide) rfl ?_
      exact x_sub [1, 2, 3, 4, 5, 6, 0] rfl (w_X9_leftOut_57 C ih x_fuel x1 x2 x3 x4 x5 (0 : Int32) σ5 h)
set_option maxHeartbeats 4000000 in
set_option maxRecDepth 100000 in
theorem c_X9_leftOut (hG : x_OK TM G) {x1 : Int32} {x2 : Int32} {σ τ : x_Hp} {r : Int32} (h : F_X9_leftOut x1 x2 σ = some (r, τ)) : x_M l TM G yX9_leftOut cX9_leftOut 7 (some .int) rm_X9_leftOut [.ref (x_ad G 0), .int x1, .int x2] σ (some (.int r)) τ := by
  refine x_M.of hG (lv := [(0, .ref (x_ad G 0)), (1, .int x1), (2, .int x2)]) (by decide) (Nat.le_of_ble_eq_true rfl) rfl (fun p e s m below meth c C => ?_)
  rw [F_X9_leftOut] at h
  refine x_iload_n C 1 dX9_leftOut_0 rfl rfl ?_
  obtain ⟨v1, σ1, hc1, h⟩ := x_b_some h
  refine x_callS C (n := 1) (c_X9_isShort hG hc1) wd_1657 wd_1658 wd_111 wd_1659 (by decide +kernel) rfl ⟨Nat.le_of_ble_eq_true rfl, Nat.le_of_ble_eq_true rfl⟩ ⟨rfl, rfl⟩ rfl (Nat.le_of_ble_eq_true rfl) dX9_leftOut_1 ?_
  refine x_if_eq C 16 dX9_leftOut_4 rfl (fun hc => ?_) (fun hc => ?_)
  · replace h := x_itp hc h
    refine x_iconst C (-1 : Int32) dX9_leftOut_16 (by decide) ?_
    obtain ⟨rfl, rfl⟩ := x_ret h
    exact x_iret C dX9_leftOut_17
  · replace h := x_itn hc h
    refine x_iload_n C 2 dX9_leftOut_7 rfl rfl ?_
    refine x_iconst C (0 : Int32) dX9_leftOut_8 (by decide) ?_
    refine x_iconst C (1 : Int32) dX9_leftOut_9 (by decide) ?_
    obtain ⟨v2, σ2, hc2, h⟩ := x_b_some h
    refine x_callS C (n := 3) (c_X9_in hG hc2) wd_1531 wd_1532 wd_111 wd_1533 (by decide +kernel) rfl ⟨Nat.le_of_ble_eq_true rfl, Nat.le_of_ble_eq_true rfl⟩ ⟨rfl, rfl⟩ rfl (Nat.le_of_ble_eq_true rfl) dX9_leftOut_10 ?_
    refine x_if_ne C 18 dX9_leftOut_13 rfl (fun hc => ?_) (fun hc => ?_)
    · replace h := x_itn hc h
      refine x_aload_n C 0 dX9_leftOut_18 rfl rfl ?_
      obtain ⟨v3, σ3, hc3, h⟩ := x_b_some h
      refine x_callV C (n := 0) (c_X9_isAwake hG hc3) kM_0 (by decide) rfl wd_1605 wd_1607 wd_81 wd_111 wd_1608 (by decide +kernel) rfl ⟨Nat.le_of_ble_eq_true rfl, Nat.le_of_ble_eq_true rfl⟩ ⟨rfl, rfl⟩ rfl (Nat.le_of_ble_eq_true rfl) dX9_leftOut_19 ?_
      refine x_if_ne C 28 dX9_leftOut_22 rfl (fun hc => ?_) (fun hc => ?_)
      · replace h := x_itn hc h
        refine x_iconst C (0 : Int32) dX9_leftOut_28 (by decide) ?_
        refine x_istore_n C [(3, .int (0 : Int32)), (0, .ref (x_ad G 0)), (1, .int x1), (2, .int x2)] dX9_leftOut_29 rfl (by decide) rfl ?_
        refine x_iconst C (-1 : Int32) dX9_leftOut_30 (by decide) ?_
        refine x_istore C [(4, .int (-1 : Int32)), (3, .int (0 : Int32)), (0, .ref (x_ad G 0)), (1, .int x1), (2, .int x2)] dX9_leftOut_31 (by decide) rfl ?_
        refine x_iconst C (0 : Int32) dX9_leftOut_33 (by decide) ?_
        refine x_istore C [(5, .int (0 : Int32)), (4, .int (-1 : Int32)), (3, .int (0 : Int32)), (0, .ref (x_ad G 0)), (1, .int x1), (2, .int x2)] dX9_leftOut_34 (by decide) rfl ?_
        exact x_sub [3, 4, 5, 2, 1, 0] rfl (w_X9_leftOut_36 C x_fuel x1 x2 (0 : Int32) (-1 : Int32) (0 : Int32) σ3 h)
      · replace h := x_itp hc h
        refine x_bipush C (-2 : Int32) dX9_leftOut_25 (by decide) ?_
        obtain ⟨rfl, rfl⟩ := x_ret h
        exact x_iret C dX9_leftOut_27
    · replace h := x_itp hc h
      refine x_iconst C (-1 : Int32) dX9_leftOut_16 (by decide) ?_
      obtain ⟨rfl, rfl⟩ := x_ret h
      exact x_iret C dX9_leftOut_17
abbrev rm_X9_cryIf : Room := { frames := 7, cells := 0, slots := 0, locals := 163 }
set_option maxHeartbeats 4000000 in
set_option maxRecDepth 100000 in
theorem w_X9_cryIf_74 {r : Int32} {τ : x_Hp} (C : x_C p s m args meth c cX9_cryIf 3 (some .int) yX9_cryIf.cls TM G) (x2 : Int32) (σ : x_Hp) (h : F_X9_cryIf_74 x2 σ = some (r, τ)) : x_W p l e rm_X9_cryIf s m args below meth c (MQ below (x_Q TM G (some (.int r)) τ) args s 0 0 (x_A TM G)) TM G 3 74 [(0, .ref (x_ad G 0)), (2, .int x2)] [] σ := by
  have hG : x_OK TM G := C.2.2.2.2.2.2.2.2.1
  rw [F_X9_cryIf_74] at h
  refine x_aload_n C 0 dX9_cryIf_74 rfl rfl ?_
  refine x_iload_n C 1 dX9_cryIf_75 rfl rfl ?_
  obtain ⟨v6, σ6, hc6, h⟩ := x_b_some h
  refine x_callV C (n := 1) (c_X9_cries hG hc6) kM_0 (by decide) rfl wd_1645 wd_1647 wd_85 wd_111 wd_1648 (by decide +kernel) rfl ⟨Nat.le_of_ble_eq_true rfl, Nat.le_of_ble_eq_true rfl⟩ ⟨rfl, rfl⟩ rfl (Nat.le_of_ble_eq_true rfl) dX9_cryIf_76 ?_
  obtain ⟨rfl, rfl⟩ := x_ret h
  exact x_iret C dX9_cryIf_79
set_option maxHeartbeats 4000000 in
set_option maxRecDepth 100000 in
theorem w_X9_cryIf_62 {r : Int32} {τ : x_Hp} (C : x_C p s m args meth c cX9_cryIf 3 (some .int) yX9_cryIf.cls TM G) (x1 : Int32) (x2 : Int32) (σ : x_Hp) (h : F_X9_cryIf_62 x1 x2 σ = some (r, τ)) : x_W p l e rm_X9_cryIf s m args below meth c (MQ below (x_Q TM G (some (.int r)) τ) args s 0 0 (x_A TM G)) TM G 3 62 [(0, .ref (x_ad G 0)), (1, .int x1), (2, .int x2)] [] σ := by
  have hG : x_OK TM G := C.2.2.2.2.2.2.2.2.1
  rw [F_X9_cryIf_62] at h
  refine x_iload_n C 1 dX9_cryIf_62 rfl rfl ?_
  refine x_iconst C (3 : Int32) dX9_cryIf_63 (by decide) ?_
  refine x_icmp_le C 74 dX9_cryIf_64 rfl (fun hc => ?_) (fun hc => ?_)
  · replace h := x_itp hc h
    exact x_sub [0, 2] rfl (w_X9_cryIf_74 C x2 σ h)
  · replace h := x_itn hc h
    refine x_aload_n C 0 dX9_cryIf_67 rfl rfl ?_
    refine x_iload_n C 1 dX9_cryIf_68 rfl rfl ?_
    refine x_iconst C (4 : Int32) dX9_cryIf_69 (by decide) ?_
    refine x_isub C dX9_cryIf_70 ?_
    obtain ⟨v5, σ5, hc5, h⟩ := x_b_some h
    refine x_callV C (n := 1) (c_X9_hands hG hc5) kM_0 (by decide) rfl wd_1609 wd_1611 wd_82 wd_111 wd_1612 (by decide +kernel) rfl ⟨Nat.le_of_ble_eq_true rfl, Nat.le_of_ble_eq_true rfl⟩ ⟨rfl, rfl⟩ rfl (Nat.le_of_ble_eq_true rfl) dX9_cryIf_71 ?_
    exact x_sub [0, 2] rfl (w_X9_cryIf_74 C x2 σ5 h)
set_option maxHeartbeats 4000000 in
set_option maxRecDepth 100000 in
theorem w_X9_cryIf_43 {r : Int32} {τ : x_Hp} (C : x_C p s m args meth c cX9_cryIf 3 (some .int) yX9_cryIf.cls TM G) (x1 : Int32) (x2 : Int32) (σ : x_Hp) (h : F_X9_cryIf_43 x1 x2 σ = some (r, τ)) : x_W p l e rm_X9_cryIf s m args below meth c (MQ below (x_Q TM G (some (.int r)) τ) args s 0 0 (x_A TM G)) TM G 3 43 [(0, .ref (x_ad G 0)), (1, .int x1), (2, .int x2)] [] σ := by
  have hG : x_OK TM G := C.2.2.2.2.2.2.2.2.1
  rw [F_X9_cryIf_43] at h
  refine x_iload_n C 1 dX9_cryIf_43 rfl rfl ?_
  refine x_iconst C (3 : Int32) dX9_cryIf_44 (by decide) ?_
  refine x_icmp_le C 62 dX9_cryIf_45 rfl (fun hc => ?_) (fun hc => ?_)
  · replace h := x_itp hc h
    exact x_sub [0, 1, 2] rfl (w_X9_cryIf_62 C x1 x2 σ h)
  · replace h := x_itn hc h
    refine x_iload_n C 1 dX9_cryIf_48 rfl rfl ?_
    refine x_iconst C (4 : Int32) dX9_cryIf_49 (by decide) ?_
    refine x_isub C dX9_cryIf_50 ?_
    refine x_aload_n C 0 dX9_cryIf_51 rfl rfl ?_
    refine x_getRq C (k := 49) kM_0 (by decide) rfl x_in9 (by decide) (by decide) rfl rfl wd_1257 rfM_0_49 dX9_cryIf_52 ?_
    refine x_iconst C (4 : Int32) dX9_cryIf_55 (by decide) ?_
    refine x_ialdJ C kM_32 (x_inl lnM_32 (by decide)) (j := 4) (by decide) dX9_cryIf_56 ?_
    refine x_icmp_ne C 62 dX9_cryIf_57 rfl (fun hc => ?_) (fun hc => ?_)
    · replace h := x_itn hc h
      exact x_sub [0, 1, 2] rfl (w_X9_cryIf_62 C x1 x2 σ h)
    · replace h := x_itp hc h
      refine x_iconst C (-1 : Int32) dX9_cryIf_60 (by decide) ?_
      obtain ⟨rfl, rfl⟩ := x_ret h
      exact x_iret C dX9_cryIf_61
set_option maxHeartbeats 4000000 in
set_option maxRecDepth 100000 in
theorem w_X9_cryIf_22 {r : Int32} {τ : x_Hp} (C : x_C p s m args meth c cX9_cryIf 3 (some .int) yX9_cryIf.cls TM G) (x1 : Int32) (x2 : Int32) (σ : x_Hp) (h : F_X9_cryIf_22 x1 x2 σ = some (r, τ)) : x_W p l e rm_X9_cryIf s m args below meth c (MQ below (x_Q TM G (some (.int r)) τ) args s 0 0 (x_A TM G)) TM G 3 22 [(0, .ref (x_ad G 0)), (1, .int x1), (2, .int x2)] [] σ := by
  have hG : x_OK TM G := C.2.2.2.2.2.2.2.2.1
  rw [F_X9_cryIf_22] at h
  refine x_iload_n C 1 dX9_cryIf_22 rfl rfl ?_
  refine x_iconst C (3 : Int32) dX9_cryIf_23 (by decide) ?_
  refine x_icmp_ne C 43 dX9_cryIf_24 rfl (fun hc => ?_) (fun hc => ?_)
  · replace h := x_itn hc h
    exact x_sub [0, 1, 2] rfl (w_X9_cryIf_43 C x1 x2 σ h)
  · replace h := x_itp hc h
    refine x_aload_n C 0 dX9_cryIf_27 rfl rfl ?_
    refine x_getRq C (k := 49) kM_0 (by decide) rfl x_in9 (by decide) (by decide) rfl rfl wd_1257 rfM_0_49 dX9_cryIf_28 ?_
    refine x_bipush C (9 : Int32) dX9_cryIf_31 (by decide) ?_
    refine x_iconst C (1 : Int32) dX9_cryIf_33 (by decide) ?_
    refine x_aload_n C 0 dX9_cryIf_34 rfl rfl ?_
    refine x_getRq C (k := 49) kM_0 (by decide) rfl x_in9 (by decide) (by decide) rfl rfl wd_1257 rfM_0_49 dX9_cryIf_35 ?_
    refine x_bipush C (9 : Int32) dX9_cryIf_38 (by decide) ?_
    refine x_ialdJ C kM_32 (x_inl lnM_32 (by decide)) (j := 9) (by decide) dX9_cryIf_40 ?_
    refine x_isub C dX9_cryIf_41 ?_
    refine x_iastJ C kM_32 (x_inl lnM_32 (by decide)) (j := 9) (by decide) dX9_cryIf_42 (x_gen h fun σ4 h => ?_)
    exact x_sub [0, 1, 2] rfl (w_X9_cryIf_43 C x1 x2 σ4 h)
set_option maxHeartbeats 4000000 in
set_option maxRecDepth 100000 in
theorem w_X9_cryIf_13 {r : Int32} {τ : x_Hp} (C : x_C p s m args meth c cX9_cryIf 3 (some .int) yX9_cryIf.cls TM G) (x1 : Int32) (x2 : Int32) (σ : x_Hp) (h : F_X9_cryIf_13 x1 x2 σ = some (r, τ)) : x_W p l e rm_X9_cryIf s m args below meth c (MQ below (x_Q TM G (some (.int r)) τ) args s 0 0 (x_A TM G)) TM G 3 13 [(0, .ref (x_ad G 0)), (1, .int x1), (2, .int x2)] [] σ := by
  have hG : x_OK TM G := C.2.2.2.2.2.2.2.2.1
  rw [F_X9_cryIf_13] at h
  refine x_iload_n C 1 dX9_cryIf_13 rfl rfl ?_
  refine x_iconst C (2 : Int32) dX9_cryIf_14 (by decide) ?_
  refine x_icmp_ne C 22 dX9_cryIf_15 rfl (fun hc => ?_) (fun hc => ?_)
  · replace h := x_itn hc h
    exact x_sub [0, 1, 2] rfl (w_X9_cryIf_22 C x1 x2 σ h)
  · replace h := x_itp hc h
    refine x_aload_n C 0 dX9_cryIf_18 rfl rfl ?_
    obtain ⟨v3, σ3, hc3, h⟩ := x_b_some h
    refine x_callV C (n := 0) (c_X9_fallsAsleep hG hc3) kM_0 (by decide) rfl wd_1593 wd_1595 wd_79 wd_111 wd_1596 (by decide +kernel) rfl ⟨Nat.le_of_ble_eq_true rfl, Nat.le_of_ble_eq_true rfl⟩ ⟨rfl, rfl⟩ rfl (Nat.le_of_ble_eq_true rfl) dX9_cryIf_19 ?_
    exact x_sub [0, 1, 2] rfl (w_X9_cryIf_22 C x1 x2 σ3 h)
set_option maxHeartbeats 4000000 in
set_option maxRecDepth 100000 in
theorem c_X9_cryIf (hG : x_OK TM G) {x1 : Int32} {x2 : Int32} {σ τ : x_Hp} {r : Int32} (h : F_X9_cryIf x1 x2 σ = some (r, τ)) : x_M l TM G yX9_cryIf cX9_cryIf 3 (some .int) rm_X9_cryIf [.ref (x_ad G 0), .int x1, .int x2] σ (some (.int r)) τ := by
  refine x_M.of hG (lv := [(0, .ref (x_ad G 0)), (1, .int x1), (2, .int x2)]) (by decide) (Nat.le_of_ble_eq_true rfl) rfl (fun p e s m below meth c C => ?_)
  rw [F_X9_cryIf] at h
  refine x_aload_n C 0 dX9_cryIf_0 rfl rfl ?_
  obtain ⟨v1, σ1, hc1, h⟩ := x_b_some h
  refine x_callV C (n := 0) (c_X9_copies hG hc1) kM_0 (by decide) rfl wd_1546 wd_1548 wd_70 wd_111 wd_1549 (by decide +kernel) rfl ⟨Nat.le_of_ble_eq_true rfl, Nat.le_of_ble_eq_true rfl⟩ ⟨rfl, rfl⟩ rfl (Nat.le_of_ble_eq_true rfl) dX9_cryIf_1 ?_
  refine x_iload_n C 1 dX9_cryIf_4 rfl rfl ?_
  refine x_iconst C (1 : Int32) dX9_cryIf_5 (by decide) ?_
  refine x_icmp_ne C 13 dX9_cryIf_6 rfl (fun hc => ?_) (fun hc => ?_)
  · replace h := x_itn hc h
    exact x_sub [0, 1, 2] rfl (w_X9_cryIf_13 C x1 x2 σ1 h)
  · replace h := x_itp hc h
    refine x_aload_n C 0 dX9_cryIf_9 rfl rfl ?_
    obtain ⟨v2, σ2, hc2, h⟩ := x_b_some h
    refine x_callV C (n := 0) (c_X9_feedsNow hG hc2) kM_0 (by decide) rfl wd_1617 wd_1619 wd_83 wd_111 wd_1620 (by decide +kernel) rfl ⟨Nat.le_of_ble_eq_true rfl, Nat.le_of_ble_eq_true rfl⟩ ⟨rfl, rfl⟩ rfl (Nat.le_of_ble_eq_true rfl) dX9_cryIf_10 ?_
    exact x_sub [0, 1, 2] rfl (w_X9_cryIf_13 C x1 x2 σ2 h)
abbrev rm_X9_wants : Room := { frames := 8, cells := 0, slots := 0, locals := 185 }
set_option maxHeartbeats 4000000 in
set_option maxRecDepth 100000 in
theorem w_X9_wants_91 {r : Int32} {τ : x_Hp} (C : x_C p s m args meth c cX9_wants 7 (some .int) yX9_wants.cls TM G) {k44 : Int32 → Int32 → Int32 → Int32 → Int32 → x_Hp → Option (Int32 × x_Hp)} (hk44 : ∀ (x1 : Int32) (x2 : Int32) (x3 : Int32) (x4 : Int32) (x5 : Int32) (σ : x_Hp) (h : k44 x1 x2 x3 x4 x5 σ = some (r, τ)), x_W p l e rm_X9_wants s m args below meth c (MQ below (x_Q TM G (some (.int r)) τ) args s 0 0 (x_A TM G)) TM G 7 44 [(0, .ref (x_ad G 0)), (1, .int x1), (2, .int x2), (3, .int x3), (4, .int x4), (5, .int x5)] [] σ) (x1 : Int32) (x2 : Int32) (x3 : Int32) (x4 : Int32) (x5 : Int32) (σ : x_Hp) (h : F_X9_wants_91 k44 x1 x2 x3 x4 x5 σ = some (r, τ)) : x_W p l e rm_X9_wants s m args below meth c (MQ below (x_Q TM G (some (.int r)) τ) args s 0 0 (x_A TM G)) TM G 7 91 [(0, .ref (x_ad G 0)), (1, .int x1), (2, .int x2), (3, .int x3), (4, .int x4), (5, .int x5)] [] σ := by
  have hG : x_OK TM G := C.2.2.2.2.2.2.2.2.1
  rw [F_X9_wants_91] at h
  refine x_iinc C 5 (x5 + (1 : Int32)) [(5, .int (x5 + (1 : Int32))), (0, .ref (x_ad G 0)), (1, .int x1), (2, .int x2), (3, .int x3), (4, .int x4)] dX9_wants_91 rfl rfl (by decide) rfl ?_
  refine x_goto C 44 dX9_wants_94 rfl ?_
  exact x_sub [1, 2, 3, 4, 5, 0] rfl (hk44 x1 x2 x3 x4 (x5 + (1 : Int32)) σ h)
set_option maxHeartbeats 4000000 in
set_option maxRecDepth 100000 in
theorem w_X9_wants_44 {r : Int32} {τ : x_Hp} (C : x_C p s m args meth c cX9_wants 7 (some .int) yX9_wants.cls TM G) : ∀ (n : Nat) (x1 : Int32) (x2 : Int32) (x3 : Int32) (x4 : Int32) (x5 : Int32) (σ : x_Hp) (h : F_X9_wants_44 n x1 x2 x3 x4 x5 σ = some (r, τ)), x_W p l e rm_X9_wants s m args below meth c (MQ below (x_Q TM G (some (.int r)) τ) args s 0 0 (x_A TM G)) TM G 7 44 [(0, .ref (x_ad G 0)), (1, .int x1), (2, .int x2), (3, .int x3), (4, .int x4), (5, .int x5)] [] σ := by
  intro n
  induction n with
  | zero => intro x1 x2 x3 x4 x5 σ  h; cases h
  | succ n ih =>
    intro x1 x2 x3 x4 x5 σ  h
    have hG : x_OK TM G := C.2.2.2.2.2.2.2.2.1
    rw [F_X9_wants_44] at h
    refine x_iload C 5 dX9_wants_44 rfl ?_
    refine x_iconst C (4 : Int32) dX9_wants_46 (by decide) ?_
    refine x_aload_n C 0 dX9_wants_47 rfl rfl ?_
    refine x_getRq C (k := 23) kM_0 (by decide) rfl x_in9 (by decide) (by decide) rfl rfl wd_1231 rfM_0_23 dX9_wants_48 ?_
    refine x_aload_n C 0 dX9_wants_51 rfl rfl ?_
    refine x_getI C (k := 18) kM_0 (by decide) rfl x_in9 (by decide) (by decide) rfl rfl wd_1226 dX9_wants_52 ?_
    obtain ⟨hi5, h⟩ := x_gd_some h
    refine x_iald C kM_10 (x_inl lnM_10 hi5) dX9_wants_55 ?_
    refine x_iadd C dX9_wants_56 ?_
    refine x_icmp_ge C 97 dX9_wants_57 rfl (fun hc => ?_) (fun hc => ?_)
    · replace h := x_itp hc h
      refine x_iload_n C 2 dX9_wants_97 rfl rfl ?_
      refine x_if_ne C 105 dX9_wants_98 rfl (fun hc => ?_) (fun hc => ?_)
      · replace h := x_itn hc h
        refine x_iload C 4 dX9_wants_105 rfl ?_
        obtain ⟨rfl, rfl⟩ := x_ret h
        exact x_iret C dX9_wants_107
      · replace h := x_itp hc h
        refine x_iload_n C 3 dX9_wants_101 rfl rfl ?_
        refine x_goto C 107 dX9_wants_102 rfl ?_
        obtain ⟨rfl, rfl⟩ := x_ret h
        exact x_iret C dX9_wants_107
    · replace h := x_itn hc h
      refine x_aload_n C 0 dX9_wants_60 rfl rfl ?_
      refine x_iload C 5 dX9_wants_61 rfl ?_
      refine x_iload_n C 1 dX9_wants_63 rfl rfl ?_
      obtain ⟨v6, σ6, hc6, h⟩ := x_b_some h
      refine x_callV C (n := 2) (c_X9_cryIf hG hc6) kM_0 (by decide) rfl wd_1716 wd_1718 wd_94 wd_111 wd_1719 (by decide +kernel) rfl ⟨Nat.le_of_ble_eq_true rfl, Nat.le_of_ble_eq_true rfl⟩ ⟨rfl, rfl⟩ rfl (Nat.le_of_ble_eq_true rfl) dX9_wants_64 ?_
      refine x_istore C [(6, .int v6), (0, .ref (x_ad G 0)), (1, .int x1), (2, .int x2), (3, .int x3), (4, .int x4), (5, .int x5)] dX9_wants_67 (by decide) rfl ?_
      refine x_iload C 0 dX9_wants_69 rfl ?_
      refine x_if_lt C 91 dX9_wants_71 rfl (fun hc => ?_) (fun hc => ?_)
      · replace h := x_itp hc h
        exact x_sub [1, 2, 3, 4, 5, 6] rfl (w_X9_wants_91 C ih x1 x2 x3 x4 x5 σ6 h)
      · replace h := x_itn hc h
        refine x_iload C 0 dX9_wants_74 rfl ?_
        refine x_iload C 5 dX9_wants_76 rfl ?_
        refine x_icmp_lt C 84 dX9_wants_78 rfl (fun hc => ?_) (fun hc => ?_)
        · replace h := x_itp hc h
          refine x_iload C 6 dX9_wants_84 rfl ?_
          refine x_istore_n C [(3, .int x5), (6, .int v6), (0, .ref (x_ad G 0)), (1, .int x1), (2, .int x2), (4, .int x4), (5, .int x5)] dX9_wants_86 rfl (by decide) rfl ?_
          refine x_iload C 1 dX9_wants_87 rfl ?_
          refine x_istore C [(4, .int v6), (3, .int x5), (6, .int v6), (0, .ref (x_ad G 0)), (1, .int x1), (2, .int x2), (5, .int x5)] dX9_wants_89 (by decide) rfl ?_
          exact x_sub [3, 4, 5, 1, 0, 6] rfl (w_X9_wants_91 C ih x1 x2 x5 v6 x5 σ6 h)
        · replace h := x_itn hc h
          refine x_goto C 91 dX9_wants_81 rfl ?_
          exact x_sub [1, 2, 3, 4, 5, 6] rfl (w_X9_wants_91 C ih x1 x2 x3 x4 x5 σ6 h)
set_option maxHeartbeats 4000000 in
set_option maxRecDepth 100000 in
theorem c_X9_wants (hG : x_OK TM G) {x1 : Int32} {x2 : Int32} {σ τ : x_Hp} {r : Int32} (h : F_X9_wants x1 x2 σ = some (r, τ)) : x_M l TM G yX9_wants cX9_wants 7 (some .int) rm_X9_wants [.ref (x_ad G 0), .int x1, .int x2] σ (some (.int r)) τ := by
  refine x_M.of hG (lv := [(0, .ref (x_ad G 0)), (1, .int x1), (2, .int x2)]) (by decide) (Nat.le_of_ble_eq_true rfl) rfl (fun p e s m below meth c C => ?_)
  rw [F_X9_wants] at h
  refine x_iload_n C 1 dX9_wants_0 rfl rfl ?_
  refine x_iconst C (1 : Int32) dX9_wants_1 (by decide) ?_
  refine x_bipush C (120 : Int32) dX9_wants_2 (by decide) ?_
  obtain ⟨v1, σ1, hc1, h⟩ := x_b_some h
  refine x_callS C (n := 3) (c_X9_in hG hc1) wd_1531 wd_1532 wd_111 wd_1533 (by decide +kernel) rfl ⟨Nat.le_of_ble_eq_true rfl, Nat.le_of_ble_eq_true rfl⟩ ⟨rfl, rfl⟩ rfl (Nat.le_of_ble_eq_true rfl) dX9_wants_4 ?_
  refine x_if_eq C 19 dX9_wants_7 rfl (fun hc => ?_) (fun hc => ?_)
  · replace h := x_itp hc h
    refine x_iconst C (-1 : Int32) dX9_wants_19 (by decide) ?_
    obtain ⟨rfl, rfl⟩ := x_ret h
    exact x_iret C dX9_wants_20
  · replace h := x_itn hc h
    refine x_iload_n C 2 dX9_wants_10 rfl rfl ?_
    refine x_iconst C (0 : Int32) dX9_wants_11 (by decide) ?_
    refine x_iconst C (1 : Int32) dX9_wants_12 (by decide) ?_
    obtain ⟨v2, σ2, hc2, h⟩ := x_b_some h
    refine x_callS C (n := 3) (c_X9_in hG hc2) wd_1531 wd_1532 wd_111 wd_1533 (by decide +kernel) rfl ⟨Nat.le_of_ble_eq_true rfl, Nat.le_of_ble_eq_true rfl⟩ ⟨rfl, rfl⟩ rfl (Nat.le_of_ble_eq_true rfl) dX9_wants_13 ?_
    refine x_if_ne C 21 dX9_wants_16 rfl (fun hc => ?_) (fun hc => ?_)
    · replace h := x_itn hc h
      refine x_aload_n C 0 dX9_wants_21 rfl rfl ?_
      obtain ⟨v3, σ3, hc3, h⟩ := x_b_some h
      refine x_callV C (n := 0) (c_X9_isAwake hG hc3) kM_0 (by decide) rfl wd_1605 wd_1607 wd_81 wd_111 wd_1608 (by decide +kernel) rfl ⟨Nat.le_of_ble_eq_true rfl, Nat.le_of_ble_eq_true rfl⟩ ⟨rfl, rfl⟩ rfl (Nat.le_of_ble_eq_true rfl) dX9_wants_22 ?_
      refine x_if_ne C 31 dX9_wants_25 rfl (fun hc => ?_) (fun hc => ?_)
      · replace h := x_itn hc h
        refine x_iconst C (0 : Int32) dX9_wants_31 (by decide) ?_
        refine x_istore_n C [(3, .int (0 : Int32)), (0, .ref (x_ad G 0)), (1, .int x1), (2, .int x2)] dX9_wants_32 rfl (by decide) rfl ?_
        refine x_aload_n C 1 dX9_wants_33 rfl rfl ?_
        refine x_iconst C (0 : Int32) dX9_wants_34 (by decide) ?_
        refine x_iload_n C 2 dX9_wants_35 rfl rfl ?_
        obtain ⟨v4, σ4, hc4, h⟩ := x_b_some h
        refine x_callV C (n := 2) (c_X9_cryIf hG hc4) kM_0 (by decide) rfl wd_1716 wd_1718 wd_94 wd_111 wd_1719 (by decide +kernel) rfl ⟨Nat.le_of_ble_eq_true rfl, Nat.le_of_ble_eq_true rfl⟩ ⟨rfl, rfl⟩ rfl (Nat.le_of_ble_eq_true rfl) dX9_wants_36 ?_
        refine x_istore C [(4, .int v4), (3, .int (0 : Int32)), (0, .ref (x_ad G 0)), (1, .int x1), (2, .int x2)] dX9_wants_39 (by decide) rfl ?_
        refine x_iconst C (1 : Int32) dX9_wants_41 (by decide) ?_
        refine x_istore C [(5, .int (1 : Int32)), (4, .int v4), (3, .int (0 : Int32)), (0, .ref (x_ad G 0)), (1, .int x1), (2, .int x2)] dX9_wants_42 (by decide) rfl ?_
        exact x_sub [3, 4, 5, 2, 1, 0] rfl (w_X9_wants_44 C x_fuel x1 x2 (0 : Int32) v4 (1 : Int32) σ4 h)
      · replace h := x_itp hc h
        refine x_bipush C (-2 : Int32) dX9_wants_28 (by decide) ?_
        obtain ⟨rfl, rfl⟩ := x_ret h
        exact x_iret C dX9_wants_30
    · replace h := x_itp hc h
      refine x_iconst C (-1 : Int32) dX9_wants_19 (by decide) ?_
      obtain ⟨rfl, rfl⟩ := x_ret h
      exact x_iret C dX9_wants_20
abbrev rm_X9_cryInSight : Room := { frames := 7, cells := 0, slots := 0, locals := 163 }
set_option maxHeartbeats 4000000 in
set_option maxRecDepth 100000 in
theorem c_X9_cryInSight (hG : x_OK TM G) {x1 : Int32} {x2 : Int32} {σ τ : x_Hp} {r : Int32} (h : F_X9_cryInSight x1 x2 σ = some (r, τ)) : x_M l TM G yX9_cryInSight cX9_cryInSight 4 (some .int) rm_X9_cryInSight [.ref (x_ad G 0), .int x1, .int x2] σ (some (.int r)) τ := by
  refine x_M.of hG (lv := [(0, .ref (x_ad G 0)), (1, .int x1), (2, .int x2)]) (by decide) (Nat.le_of_ble_eq_true rfl) rfl (fun p e s m below meth c C => ?_)
  rw [F_X9_cryInSight] at h
  refine x_aload_n C 0 dX9_cryInSight_0 rfl rfl ?_
  obtain ⟨v1, σ1, hc1, h⟩ := x_b_some h
  refine x_callV C (n := 0) (c_X9_copies hG hc1) kM_0 (by decide) rfl wd_1546 wd_1548 wd_70 wd_111 wd_1549 (by decide +kernel) rfl ⟨Nat.le_of_ble_eq_true rfl, Nat.le_of_ble_eq_true rfl⟩ ⟨rfl, rfl⟩ rfl (Nat.le_of_ble_eq_true rfl) dX9_cryInSight_1 ?_
  refine x_aload_n C 0 dX9_cryInSight_4 rfl rfl ?_
  refine x_getRq C (k := 49) kM_0 (by decide) rfl x_in9 (by decide) (by decide) rfl rfl wd_1257 rfM_0_49 dX9_cryInSight_5 ?_
  refine x_bipush C (9 : Int32) dX9_cryInSight_8 (by decide) ?_
  refine x_iconst C (1 : Int32) dX9_cryInSight_10 (by decide) ?_
  refine x_iastJ C kM_32 (x_inl lnM_32 (by decide)) (j := 9) (by decide) dX9_cryInSight_11 (x_gen h fun σ2 h => ?_)
  refine x_aload_n C 0 dX9_cryInSight_12 rfl rfl ?_
  refine x_iload_n C 1 dX9_cryInSight_13 rfl rfl ?_
  obtain ⟨v3, σ3, hc3, h⟩ := x_b_some h
  refine x_callV C (n := 1) (c_X9_cries hG hc3) kM_0 (by decide) rfl wd_1645 wd_1647 wd_85 wd_111 wd_1648 (by decide +kernel) rfl ⟨Nat.le_of_ble_eq_true rfl, Nat.le_of_ble_eq_true rfl⟩ ⟨rfl, rfl⟩ rfl (Nat.le_of_ble_eq_true rfl) dX9_cryInSight_14 ?_
  refine x_istore_n C [(3, .int v3), (0, .ref (x_ad G 0)), (1, .int x1), (2, .int x2)] dX9_cryInSight_17 rfl (by decide) rfl ?_
  refine x_aload_n C 1 dX9_cryInSight_18 rfl rfl ?_
  refine x_getRq C (k := 49) kM_0 (by decide) rfl x_in9 (by decide) (by decide) rfl rfl wd_1257 rfM_0_49 dX9_cryInSight_19 ?_
  refine x_bipush C (9 : Int32) dX9_cryInSight_22 (by decide) ?_
  refine x_iconst C (0 : Int32) dX9_cryInSight_24 (by decide) ?_
  refine x_iastJ C kM_32 (x_inl lnM_32 (by decide)) (j := 9) (by decide) dX9_cryInSight_25 (x_gen h fun σ4 h => ?_)
  refine x_iload_n C 0 dX9_cryInSight_26 rfl rfl ?_
  refine x_aload_n C 1 dX9_cryInSight_27 rfl rfl ?_
  refine x_iload_n C 3 dX9_cryInSight_28 rfl rfl ?_
  refine x_iload_n C 2 dX9_cryInSight_29 rfl rfl ?_
  refine x_isub C dX9_cryInSight_30 ?_
  obtain ⟨v5, σ5, hc5, h⟩ := x_b_some h
  refine x_callV C (n := 1) (c_X9_cries hG hc5) kM_0 (by decide) rfl wd_1645 wd_1647 wd_85 wd_111 wd_1648 (by decide +kernel) rfl ⟨Nat.le_of_ble_eq_true rfl, Nat.le_of_ble_eq_true rfl⟩ ⟨rfl, rfl⟩ rfl (Nat.le_of_ble_eq_true rfl) dX9_cryInSight_31 ?_
  refine x_iadd C dX9_cryInSight_34 ?_
  obtain ⟨rfl, rfl⟩ := x_ret h
  exact x_iret C dX9_cryInSight_35
abbrev rm_X9_moment : Room := { frames := 8, cells := 0, slots := 0, locals := 186 }
set_option maxHeartbeats 4000000 in
set_option maxRecDepth 100000 in
theorem c_X9_moment (hG : x_OK TM G) {x1 : Int32} {σ τ : x_Hp} {r : Int32} (h : F_X9_moment x1 σ = some (r, τ)) : x_M l TM G yX9_moment cX9_moment 2 (some .int) rm_X9_moment [.ref (x_ad G 0), .int x1] σ (some (.int r)) τ := by
  refine x_M.of hG (lv := [(0, .ref (x_ad G 0)), (1, .int x1)]) (by decide) (Nat.le_of_ble_eq_true rfl) rfl (fun p e s m below meth c C => ?_)
  rw [F_X9_moment] at h
  refine x_iload_n C 1 dX9_moment_0 rfl rfl ?_
  refine x_iconst C (1 : Int32) dX9_moment_1 (by decide) ?_
  refine x_bipush C (120 : Int32) dX9_moment_2 (by decide) ?_
  obtain ⟨v1, σ1, hc1, h⟩ := x_b_some h
  refine x_callS C (n := 3) (c_X9_in hG hc1) wd_1531 wd_1532 wd_111 wd_1533 (by decide +kernel) rfl ⟨Nat.le_of_ble_eq_true rfl, Nat.le_of_ble_eq_true rfl⟩ ⟨rfl, rfl⟩ rfl (Nat.le_of_ble_eq_true rfl) dX9_moment_4 ?_
  refine x_if_ne C 14 dX9_moment_7 rfl (fun hc => ?_) (fun hc => ?_)
  · replace h := x_itn hc h
    refine x_aload_n C 0 dX9_moment_14 rfl rfl ?_
    refine x_iconst C (1 : Int32) dX9_moment_15 (by decide) ?_
    refine x_iload_n C 1 dX9_moment_16 rfl rfl ?_
    obtain ⟨v2, σ2, hc2, h⟩ := x_b_some h
    refine x_callV C (n := 2) (c_X9_cryInSight hG hc2) kM_0 (by decide) rfl wd_1725 wd_1727 wd_95 wd_111 wd_1728 (by decide +kernel) rfl ⟨Nat.le_of_ble_eq_true rfl, Nat.le_of_ble_eq_true rfl⟩ ⟨rfl, rfl⟩ rfl (Nat.le_of_ble_eq_true rfl) dX9_moment_17 ?_
    refine x_aload_n C 0 dX9_moment_20 rfl rfl ?_
    refine x_iconst C (0 : Int32) dX9_moment_21 (by decide) ?_
    refine x_iload_n C 1 dX9_moment_22 rfl rfl ?_
    obtain ⟨v3, σ3, hc3, h⟩ := x_b_some h
    refine x_callV C (n := 2) (c_X9_cryInSight hG hc3) kM_0 (by decide) rfl wd_1725 wd_1727 wd_95 wd_111 wd_1728 (by decide +kernel) rfl ⟨Nat.le_of_ble_eq_true rfl, Nat.le_of_ble_eq_true rfl⟩ ⟨rfl, rfl⟩ rfl (Nat.le_of_ble_eq_true rfl) dX9_moment_23 ?_
    refine x_isub C dX9_moment_26 ?_
    obtain ⟨rfl, rfl⟩ := x_ret h
    exact x_iret C dX9_moment_27
  · replace h := x_itp hc h
    refine x_ldcw C wd_1724 dX9_moment_10 ?_
    obtain ⟨rfl, rfl⟩ := x_ret h
    exact x_iret C dX9_moment_13
abbrev rm_X9_inSight : Room := { frames := 8, cells := 0, slots := 0, locals := 186 }
set_option maxHeartbeats 4000000 in
set_option maxRecDepth 100000 in
theorem w_X9_inSight_66 {r : Int32} {τ : x_Hp} (C : x_C p s m args meth c cX9_inSight 7 (some .int) yX9_inSight.cls TM G) {k29 : Int32 → Int32 → Int32 → Int32 → Int32 → x_Hp → Option (Int32 × x_Hp)} (hk29 : ∀ (x1 : Int32) (x2 : Int32) (x3 : Int32) (x4 : Int32) (x5 : Int32) (σ : x_Hp) (h : k29 x1 x2 x3 x4 x5 σ = some (r, τ)), x_W p l e rm_X9_inSight s m args below meth c (MQ below (x_Q TM G (some (.int r)) τ) args s 0 0 (x_A TM G)) TM G 7 29 [(0, .ref (x_ad G 0)), (1, .int x1), (2, .int x2), (3, .int x3), (4, .int x4), (5, .int x5)] [] σ) (x1 : Int32) (x2 : Int32) (x3 : Int32) (x4 : Int32) (x5 : Int32) (σ : x_Hp) (h : F_X9_inSight_66 k29 x1 x2 x3 x4 x5 σ = some (r, τ)) : x_W p l e rm_X9_inSight s m args below meth c (MQ below (x_Q TM G (some (.int r)) τ) args s 0 0 (x_A TM G)) TM G 7 66 [(0, .ref (x_ad G 0)), (1, .int x1), (2, .int x2), (3, .int x3), (4, .int x4), (5, .int x5)] [] σ := by
  have hG : x_OK TM G := C.2.2.2.2.2.2.2.2.1
  rw [F_X9_inSight_66] at h
  refine x_iinc C 5 (x5 + (1 : Int32)) [(5, .int (x5 + (1 : Int32))), (0, .ref (x_ad G 0)), (1, .int x1), (2, .int x2), (3, .int x3), (4, .int x4)] dX9_inSight_66 rfl rfl (by decide) rfl ?_
  refine x_goto C 29 dX9_inSight_69 rfl ?_
  exact x_sub [1, 2, 3, 4, 5, 0] rfl (hk29 x1 x2 x3 x4 (x5 + (1 : Int32)) σ h)
set_option maxHeartbeats 4000000 in
set_option maxRecDepth 100000 in
theorem w_X9_inSight_59 {r : Int32} {τ : x_Hp} (C : x_C p s m args meth c cX9_inSight 7 (some .int) yX9_inSight.cls TM G) {k29 : Int32 → Int32 → Int32 → Int32 → Int32 → x_Hp → Option (Int32 × x_Hp)} (hk29 : ∀ (x1 : Int32) (x2 : Int32) (x3 : Int32) (x4 : Int32) (x5 : Int32) (σ : x_Hp) (h : k29 x1 x2 x3 x4 x5 σ = some (r, τ)), x_W p l e rm_X9_inSight s m args below meth c (MQ below (x_Q TM G (some (.int r)) τ) args s 0 0 (x_A TM G)) TM G 7 29 [(0, .ref (x_ad G 0)), (1, .int x1), (2, .int x2), (3, .int x3), (4, .int x4), (5, .int x5)] [] σ) (x1 : Int32) (x2 : Int32) (x5 : Int32) (x6 : Int32) (σ : x_Hp) (h : F_X9_inSight_59 k29 x1 x2 x5 x6 σ = some (r, τ)) : x_W p l e rm_X9_inSight s m args below meth c (MQ below (x_Q TM G (some (.int r)) τ) args s 0 0 (x_A TM G)) TM G 7 59 [(0, .ref (x_ad G 0)), (1, .int x1), (2, .int x2), (5, .int x5), (6, .int x6)] [] σ := by
  have hG : x_OK TM G := C.2.2.2.2.2.2.2.2.1
  rw [F_X9_inSight_59] at h
  refine x_iload C 3 dX9_inSight_59 rfl ?_
  refine x_istore_n C [(3, .int x5), (0, .ref (x_ad G 0)), (1, .int x1), (2, .int x2), (5, .int x5), (6, .int x6)] dX9_inSight_61 rfl (by decide) rfl ?_
  refine x_iload C 5 dX9_inSight_62 rfl ?_
  refine x_istore C [(4, .int x6), (3, .int x5), (0, .ref (x_ad G 0)), (1, .int x1), (2, .int x2), (5, .int x5), (6, .int x6)] dX9_inSight_64 (by decide) rfl ?_
  exact x_sub [2, 3, 4, 1, 0, 5] rfl (w_X9_inSight_66 C hk29 x1 x2 x5 x6 x5 σ h)
set_option maxHeartbeats 4000000 in
set_option maxRecDepth 100000 in
theorem w_X9_inSight_29 {r : Int32} {τ : x_Hp} (C : x_C p s m args meth c cX9_inSight 7 (some .int) yX9_inSight.cls TM G) : ∀ (n : Nat) (x1 : Int32) (x2 : Int32) (x3 : Int32) (x4 : Int32) (x5 : Int32) (σ : x_Hp) (h : F_X9_inSight_29 n x1 x2 x3 x4 x5 σ = some (r, τ)), x_W p l e rm_X9_inSight s m args below meth c (MQ below (x_Q TM G (some (.int r)) τ) args s 0 0 (x_A TM G)) TM G 7 29 [(0, .ref (x_ad G 0)), (1, .int x1), (2, .int x2), (3, .int x3), (4, .int x4), (5, .int x5)] [] σ := by
  intro n
  induction n with
  | zero => intro x1 x2 x3 x4 x5 σ  h; cases h
  | succ n ih =>
    intro x1 x2 x3 x4 x5 σ  h
    have hG : x_OK TM G := C.2.2.2.2.2.2.2.2.1
    rw [F_X9_inSight_29] at h
    refine x_iload C 5 dX9_inSight_29 rfl ?_
    refine x_iload_n C 1 dX9_inSight_31 rfl rfl ?_
    refine x_icmp_gt C 72 dX9_inSight_32 rfl (fun hc => ?_) (fun hc => ?_)
    · replace h := x_itp hc h
      refine x_iload_n C 2 dX9_inSight_72 rfl rfl ?_
      refine x_if_ne C 80 dX9_inSight_73 rfl (fun hc => ?_) (fun hc => ?_)
      · replace h := x_itn hc h
        refine x_iload C 4 dX9_inSight_80 rfl ?_
        obtain ⟨rfl, rfl⟩ := x_ret h
        exact x_iret C dX9_inSight_82
      · replace h := x_itp hc h
        refine x_iload_n C 3 dX9_inSight_76 rfl rfl ?_
        refine x_goto C 82 dX9_inSight_77 rfl ?_
        obtain ⟨rfl, rfl⟩ := x_ret h
        exact x_iret C dX9_inSight_82
    · replace h := x_itn hc h
      refine x_aload_n C 0 dX9_inSight_35 rfl rfl ?_
      refine x_iload C 5 dX9_inSight_36 rfl ?_
      refine x_iload_n C 1 dX9_inSight_38 rfl rfl ?_
      obtain ⟨v3, σ3, hc3, h⟩ := x_b_some h
      refine x_callV C (n := 2) (c_X9_cryInSight hG hc3) kM_0 (by decide) rfl wd_1725 wd_1727 wd_95 wd_111 wd_1728 (by decide +kernel) rfl ⟨Nat.le_of_ble_eq_true rfl, Nat.le_of_ble_eq_true rfl⟩ ⟨rfl, rfl⟩ rfl (Nat.le_of_ble_eq_true rfl) dX9_inSight_39 ?_
      refine x_istore C [(6, .int v3), (0, .ref (x_ad G 0)), (1, .int x1), (2, .int x2), (3, .int x3), (4, .int x4), (5, .int x5)] dX9_inSight_42 (by decide) rfl ?_
      refine x_iload C 5 dX9_inSight_44 rfl ?_
      refine x_if_lt C 59 dX9_inSight_46 rfl (fun hc => ?_) (fun hc => ?_)
      · replace h := x_itp hc h
        exact x_sub [1, 2, 3, 6, 0] rfl (w_X9_inSight_59 C ih x1 x2 x5 v3 σ3 h)
      · replace h := x_itn hc h
        refine x_iload C 0 dX9_inSight_49 rfl ?_
        refine x_iload C 5 dX9_inSight_51 rfl ?_
        refine x_icmp_lt C 59 dX9_inSight_53 rfl (fun hc => ?_) (fun hc => ?_)
        · replace h := x_itp hc h
          exact x_sub [1, 2, 3, 6, 0] rfl (w_X9_inSight_59 C ih x1 x2 x5 v3 σ3 h)
        · replace h := x_itn hc h
          refine x_goto C 66 dX9_inSight_56 rfl ?_
          exact x_sub [1, 2, 3, 4, 5, 6] rfl (w_X9_inSight_66 C ih x1 x2 x3 x4 x5 σ3 h)
set_option maxHeartbeats 4000000 in
set_option maxRecDepth 100000 in
theorem c_X9_inSight (hG : x_OK TM G) {x1 : Int32} {x2 : Int32} {σ τ : x_Hp} {r : Int32} (h : F_X9_inSight x1 x2 σ = some (r, τ)) : x_M l TM G yX9_inSight cX9_inSight 7 (some .int) rm_X9_inSight [.ref (x_ad G 0), .int x1, .int x2] σ (some (.int r)) τ := by
  refine x_M.of hG (lv := [(0, .ref (x_ad G 0)), (1, .int x1), (2, .int x2)]) (by decide) (Nat.le_of_ble_eq_true rfl) rfl (fun p e s m below meth c C => ?_)
  rw [F_X9_inSight] at h
  refine x_iload_n C 1 dX9_inSight_0 rfl rfl ?_
  refine x_iconst C (1 : Int32) dX9_inSight_1 (by decide) ?_
  refine x_bipush C (60 : Int32) dX9_inSight_2 (by decide) ?_
  obtain ⟨v1, σ1, hc1, h⟩ := x_b_some h
  refine x_callS C (n := 3) (c_X9_in hG hc1) wd_1531 wd_1532 wd_111 wd_1533 (by decide +kernel) rfl ⟨Nat.le_of_ble_eq_true rfl, Nat.le_of_ble_eq_true rfl⟩ ⟨rfl, rfl⟩ rfl (Nat.le_of_ble_eq_true rfl) dX9_inSight_4 ?_
  refine x_if_eq C 19 dX9_inSight_7 rfl (fun hc => ?_) (fun hc => ?_)
  · replace h := x_itp hc h
    refine x_iconst C (-1 : Int32) dX9_inSight_19 (by decide) ?_
    obtain ⟨rfl, rfl⟩ := x_ret h
    exact x_iret C dX9_inSight_20
  · replace h := x_itn hc h
    refine x_iload_n C 2 dX9_inSight_10 rfl rfl ?_
    refine x_iconst C (0 : Int32) dX9_inSight_11 (by decide) ?_
    refine x_iconst C (1 : Int32) dX9_inSight_12 (by decide) ?_
    obtain ⟨v2, σ2, hc2, h⟩ := x_b_some h
    refine x_callS C (n := 3) (c_X9_in hG hc2) wd_1531 wd_1532 wd_111 wd_1533 (by decide +kernel) rfl ⟨Nat.le_of_ble_eq_true rfl, Nat.le_of_ble_eq_true rfl⟩ ⟨rfl, rfl⟩ rfl (Nat.le_of_ble_eq_true rfl) dX9_inSight_13 ?_
    refine x_if_ne C 21 dX9_inSight_16 rfl (fun hc => ?_) (fun hc => ?_)
    · replace h := x_itn hc h
      refine x_iconst C (0 : Int32) dX9_inSight_21 (by decide) ?_
      refine x_istore_n C [(3, .int (0 : Int32)), (0, .ref (x_ad G 0)), (1, .int x1), (2, .int x2)] dX9_inSight_22 rfl (by decide) rfl ?_
      refine x_iconst C (-1 : Int32) dX9_inSight_23 (by decide) ?_
      refine x_istore C [(4, .int (-1 : Int32)), (3, .int (0 : Int32)), (0, .ref (x_ad G 0)), (1, .int x1), (2, .int x2)] dX9_inSight_24 (by decide) rfl ?_
      refine x_iconst C (0 : Int32) dX9_inSight_26 (by decide) ?_
      refine x_istore C [(5, .int (0 : Int32)), (4, .int (-1 : Int32)), (3, .int (0 : Int32)), (0, .ref (x_ad G 0)), (1, .int x1), (2, .int x2)] dX9_inSight_27 (by decide) rfl ?_
      exact x_sub [3, 4, 5, 2, 1, 0] rfl (w_X9_inSight_29 C x_fuel x1 x2 (0 : Int32) (-1 : Int32) (0 : Int32) σ2 h)
    · replace h := x_itp hc h
      refine x_iconst C (-1 : Int32) dX9_inSight_19 (by decide) ?_
      obtain ⟨rfl, rfl⟩ := x_ret h
      exact x_iret C dX9_inSight_20
abbrev rm_X9_beat : Room := { frames := 7, cells := 0, slots := 0, locals := 163 }
set_option maxHeartbeats 4000000 in
set_option maxRecDepth 100000 in
theorem w_X9_beat_115 {r : Int32} {τ : x_Hp} (C : x_C p s m args meth c cX9_beat 8 (some .int) yX9_beat.cls TM G) {k48 : Int32 → Int32 → Int32 → Int32 → Int32 → Int32 → x_Hp → Option (Int32 × x_Hp)} (hk48 : ∀ (x1 : Int32) (x2 : Int32) (x3 : Int32) (x4 : Int32) (x5 : Int32) (x6 : Int32) (σ : x_Hp) (h : k48 x1 x2 x3 x4 x5 x6 σ = some (r, τ)), x_W p l e rm_X9_beat s m args below meth c (MQ below (x_Q TM G (some (.int r)) τ) args s 0 0 (x_A TM G)) TM G 8 48 [(0, .ref (x_ad G 0)), (1, .int x1), (2, .int x2), (3, .int x3), (4, .int x4), (5, .int x5), (6, .int x6)] [] σ) (x1 : Int32) (x2 : Int32) (x3 : Int32) (x4 : Int32) (x5 : Int32) (x6 : Int32) (σ : x_Hp) (h : F_X9_beat_115 k48 x1 x2 x3 x4 x5 x6 σ = some (r, τ)) : x_W p l e rm_X9_beat s m args below meth c (MQ below (x_Q TM G (some (.int r)) τ) args s 0 0 (x_A TM G)) TM G 8 115 [(0, .ref (x_ad G 0)), (1, .int x1), (2, .int x2), (3, .int x3), (4, .int x4), (5, .int x5), (6, .int x6)] [] σ := by
  have hG : x_OK TM G := C.2.2.2.2.2.2.2.2.1
  rw [F_X9_beat_115] at h
  refine x_iinc C 6 (x6 + (1 : Int32)) [(6, .int (x6 + (1 : Int32))), (0, .ref (x_ad G 0)), (1, .int x1), (2, .int x2), (3, .int x3), (4, .int x4), (5, .int x5)] dX9_beat_115 rfl rfl (by decide) rfl ?_
  refine x_goto C 48 dX9_beat_118 rfl ?_
  exact x_sub [1, 2, 3, 4, 5, 6, 0] rfl (hk48 x1 x2 x3 x4 x5 (x6 + (1 : Int32)) σ h)
set_option maxHeartbeats 4000000 in
set_option maxRecDepth 100000 in
theorem w_X9_beat_107 {r : Int32} {τ : x_Hp} (C : x_C p s m args meth c cX9_beat 8 (some .int) yX9_beat.cls TM G) {k48 : Int32 → Int32 → Int32 → Int32 → Int32 → Int32 → x_Hp → Option (Int32 × x_Hp)} (hk48 : ∀ (x1 : Int32) (x2 : Int32) (x3 : Int32) (x4 : Int32) (x5 : Int32) (x6 : Int32) (σ : x_Hp) (h : k48 x1 x2 x3 x4 x5 x6 σ = some (r, τ)), x_W p l e rm_X9_beat s m args below meth c (MQ below (x_Q TM G (some (.int r)) τ) args s 0 0 (x_A TM G)) TM G 8 48 [(0, .ref (x_ad G 0)), (1, .int x1), (2, .int x2), (3, .int x3), (4, .int x4), (5, .int x5), (6, .int x6)] [] σ) (x1 : Int32) (x2 : Int32) (x3 : Int32) (x6 : Int32) (x7 : Int32) (σ : x_Hp) (h : F_X9_beat_107 k48 x1 x2 x3 x6 x7 σ = some (r, τ)) : x_W p l e rm_X9_beat s m args below meth c (MQ below (x_Q TM G (some (.int r)) τ) args s 0 0 (x_A TM G)) TM G 8 107 [(0, .ref (x_ad G 0)), (1, .int x1), (2, .int x2), (3, .int x3), (6, .int x6), (7, .int x7)] [] σ := by
  have hG : x_OK TM G := C.2.2.2.2.2.2.2.2.1
  rw [F_X9_beat_107] at h
  refine x_iload C 4 dX9_beat_107 rfl ?_
  refine x_istore C [(4, .int x6), (0, .ref (x_ad G 0)), (1, .int x1), (2, .int x2), (3, .int x3), (6, .int x6), (7, .int x7)] dX9_beat_109 (by decide) rfl ?_
  refine x_iload C 6 dX9_beat_111 rfl ?_
  refine x_istore C [(5, .int x7), (4, .int x6), (0, .ref (x_ad G 0)), (1, .int x1), (2, .int x2), (3, .int x3), (6, .int x6), (7, .int x7)] dX9_beat_113 (by decide) rfl ?_
  exact x_sub [2, 3, 4, 5, 1, 0, 6] rfl (w_X9_beat_115 C hk48 x1 x2 x3 x6 x7 x6 σ h)
set_option maxHeartbeats 4000000 in
set_option maxRecDepth 100000 in
theorem w_X9_beat_74 {r : Int32} {τ : x_Hp} (C : x_C p s m args meth c cX9_beat 8 (some .int) yX9_beat.cls TM G) {k48 : Int32 → Int32 → Int32 → Int32 → Int32 → Int32 → x_Hp → Option (Int32 × x_Hp)} (hk48 : ∀ (x1 : Int32) (x2 : Int32) (x3 : Int32) (x4 : Int32) (x5 : Int32) (x6 : Int32) (σ : x_Hp) (h : k48 x1 x2 x3 x4 x5 x6 σ = some (r, τ)), x_W p l e rm_X9_beat s m args below meth c (MQ below (x_Q TM G (some (.int r)) τ) args s 0 0 (x_A TM G)) TM G 8 48 [(0, .ref (x_ad G 0)), (1, .int x1), (2, .int x2), (3, .int x3), (4, .int x4), (5, .int x5), (6, .int x6)] [] σ) (x1 : Int32) (x2 : Int32) (x3 : Int32) (x4 : Int32) (x5 : Int32) (x6 : Int32) (σ : x_Hp) (h : F_X9_beat_74 k48 x1 x2 x3 x4 x5 x6 σ = some (r, τ)) : x_W p l e rm_X9_beat s m args below meth c (MQ below (x_Q TM G (some (.int r)) τ) args s 0 0 (x_A TM G)) TM G 8 74 [(0, .ref (x_ad G 0)), (1, .int x1), (2, .int x2), (3, .int x3), (4, .int x4), (5, .int x5), (6, .int x6)] [] σ := by
  have hG : x_OK TM G := C.2.2.2.2.2.2.2.2.1
  rw [F_X9_beat_74] at h
  refine x_aload_n C 0 dX9_beat_74 rfl rfl ?_
  refine x_iload_n C 1 dX9_beat_75 rfl rfl ?_
  refine x_putI C (k := 51) tyX9 kM_0 (by decide) rfl x_in9 tyX9_ok nmX9 (by decide) (by decide) rfl rfl wd_1259 rfl (tyX9_ok 51 (by decide)) rfl rfl dX9_beat_76 (x_gen h fun σ7 h => ?_)
  refine x_aload_n C 0 dX9_beat_79 rfl rfl ?_
  refine x_iload C 6 dX9_beat_80 rfl ?_
  refine x_putI C (k := 52) tyX9 kM_0 (by decide) rfl x_in9 tyX9_ok nmX9 (by decide) (by decide) rfl rfl wd_1260 rfl (tyX9_ok 52 (by decide)) rfl rfl dX9_beat_82 (x_gen h fun σ8 h => ?_)
  refine x_aload_n C 0 dX9_beat_85 rfl rfl ?_
  refine x_iload_n C 2 dX9_beat_86 rfl rfl ?_
  obtain ⟨v9, σ9, hc9, h⟩ := x_b_some h
  refine x_callV C (n := 1) (c_X9_cries hG hc9) kM_0 (by decide) rfl wd_1645 wd_1647 wd_85 wd_111 wd_1648 (by decide +kernel) rfl ⟨Nat.le_of_ble_eq_true rfl, Nat.le_of_ble_eq_true rfl⟩ ⟨rfl, rfl⟩ rfl (Nat.le_of_ble_eq_true rfl) dX9_beat_87 ?_
  refine x_istore C [(7, .int v9), (0, .ref (x_ad G 0)), (1, .int x1), (2, .int x2), (3, .int x3), (4, .int x4), (5, .int x5), (6, .int x6)] dX9_beat_90 (by decide) rfl ?_
  refine x_iload C 6 dX9_beat_92 rfl ?_
  refine x_if_lt C 107 dX9_beat_94 rfl (fun hc => ?_) (fun hc => ?_)
  · replace h := x_itp hc h
    exact x_sub [1, 2, 3, 4, 7, 0] rfl (w_X9_beat_107 C hk48 x1 x2 x3 x6 v9 σ9 h)
  · replace h := x_itn hc h
    refine x_iload C 0 dX9_beat_97 rfl ?_
    refine x_iload C 6 dX9_beat_99 rfl ?_
    refine x_icmp_lt C 107 dX9_beat_101 rfl (fun hc => ?_) (fun hc => ?_)
    · replace h := x_itp hc h
      exact x_sub [1, 2, 3, 4, 7, 0] rfl (w_X9_beat_107 C hk48 x1 x2 x3 x6 v9 σ9 h)
    · replace h := x_itn hc h
      refine x_goto C 115 dX9_beat_104 rfl ?_
      exact x_sub [1, 2, 3, 4, 5, 6, 7] rfl (w_X9_beat_115 C hk48 x1 x2 x3 x4 x5 x6 σ9 h)
set_option maxHeartbeats 4000000 in
set_option maxRecDepth 100000 in
theorem w_X9_beat_48 {r : Int32} {τ : x_Hp} (C : x_C p s m args meth c cX9_beat 8 (some .int) yX9_beat.cls TM G) : ∀ (n : Nat) (x1 : Int32) (x2 : Int32) (x3 : Int32) (x4 : Int32) (x5 : Int32) (x6 : Int32) (σ : x_Hp) (h : F_X9_beat_48 n x1 x2 x3 x4 x5 x6 σ = some (r, τ)), x_W p l e rm_X9_beat s m args below meth c (MQ below (x_Q TM G (some (.int r)) τ) args s 0 0 (x_A TM G)) TM G 8 48 [(0, .ref (x_ad G 0)), (1, .int x1), (2, .int x2), (3, .int x3), (4, .int x4), (5, .int x5), (6, .int x6)] [] σ := by
  intro n
  induction n with
  | zero => intro x1 x2 x3 x4 x5 x6 σ  h; cases h
  | succ n ih =>
    intro x1 x2 x3 x4 x5 x6 σ  h
    have hG : x_OK TM G := C.2.2.2.2.2.2.2.2.1
    rw [F_X9_beat_48] at h
    refine x_iload C 6 dX9_beat_48 rfl ?_
    refine x_bipush C (10 : Int32) dX9_beat_50 (by decide) ?_
    refine x_icmp_ge C 121 dX9_beat_52 rfl (fun hc => ?_) (fun hc => ?_)
    · replace h := x_itp hc h
      refine x_iload_n C 3 dX9_beat_121 rfl rfl ?_
      refine x_if_ne C 130 dX9_beat_122 rfl (fun hc => ?_) (fun hc => ?_)
      · replace h := x_itn hc h
        refine x_iload C 5 dX9_beat_130 rfl ?_
        obtain ⟨rfl, rfl⟩ := x_ret h
        exact x_iret C dX9_beat_132
      · replace h := x_itp hc h
        refine x_iload C 4 dX9_beat_125 rfl ?_
        refine x_goto C 132 dX9_beat_127 rfl ?_
        obtain ⟨rfl, rfl⟩ := x_ret h
        exact x_iret C dX9_beat_132
    · replace h := x_itn hc h
      refine x_aload_n C 0 dX9_beat_55 rfl rfl ?_
      obtain ⟨v5, σ5, hc5, h⟩ := x_b_some h
      refine x_callV C (n := 0) (c_X9_copies hG hc5) kM_0 (by decide) rfl wd_1546 wd_1548 wd_70 wd_111 wd_1549 (by decide +kernel) rfl ⟨Nat.le_of_ble_eq_true rfl, Nat.le_of_ble_eq_true rfl⟩ ⟨rfl, rfl⟩ rfl (Nat.le_of_ble_eq_true rfl) dX9_beat_56 ?_
      refine x_aload_n C 0 dX9_beat_59 rfl rfl ?_
      refine x_getRq C (k := 49) kM_0 (by decide) rfl x_in9 (by decide) (by decide) rfl rfl wd_1257 rfM_0_49 dX9_beat_60 ?_
      refine x_iconst C (4 : Int32) dX9_beat_63 (by decide) ?_
      refine x_ialdJ C kM_32 (x_inl lnM_32 (by decide)) (j := 4) (by decide) dX9_beat_64 ?_
      refine x_iload_n C 1 dX9_beat_65 rfl rfl ?_
      refine x_icmp_eq C 74 dX9_beat_66 rfl (fun hc => ?_) (fun hc => ?_)
      · replace h := x_itp hc h
        exact x_sub [0, 1, 2, 3, 4, 5, 6] rfl (w_X9_beat_74 C ih x1 x2 x3 x4 x5 x6 σ5 h)
      · replace h := x_itn hc h
        refine x_aload_n C 0 dX9_beat_69 rfl rfl ?_
        refine x_iload_n C 1 dX9_beat_70 rfl rfl ?_
        obtain ⟨v6, σ6, hc6, h⟩ := x_b_some h
        refine x_callV C (n := 1) (c_X9_hands hG hc6) kM_0 (by decide) rfl wd_1609 wd_1611 wd_82 wd_111 wd_1612 (by decide +kernel) rfl ⟨Nat.le_of_ble_eq_true rfl, Nat.le_of_ble_eq_true rfl⟩ ⟨rfl, rfl⟩ rfl (Nat.le_of_ble_eq_true rfl) dX9_beat_71 ?_
        exact x_sub [0, 1, 2, 3, 4, 5, 6] rfl (w_X9_beat_74 C ih x1 x2 x3 x4 x5 x6 σ6 h)
set_option maxHeartbeats 4000000 in
set_option maxRecDepth 100000 in
theorem c_X9_beat (hG : x_OK TM G) {x1 : Int32} {x2 : Int32} {x3 : Int32} {σ τ : x_Hp} {r : Int32} (h : F_X9_beat x1 x2 x3 σ = some (r, τ)) : x_M l TM G yX9_beat cX9_beat 8 (some .int) rm_X9_beat [.ref (x_ad G 0), .int x1, .int x2, .int x3] σ (some (.int r)) τ := by
  refine x_M.of hG (lv := [(0, .ref (x_ad G 0)), (1, .int x1), (2, .int x2), (3, .int x3)]) (by decide) (Nat.le_of_ble_eq_true rfl) rfl (fun p e s m below meth c C => ?_)
  rw [F_X9_beat] at h
  refine x_aload_n C 0 dX9_beat_0 rfl rfl ?_
  refine x_iload_n C 1 dX9_beat_1 rfl rfl ?_
  obtain ⟨v1, σ1, hc1, h⟩ := x_b_some h
  refine x_callV C (n := 1) (c_X9_isAunt hG hc1) kM_0 (by decide) rfl wd_1538 wd_1540 wd_69 wd_111 wd_1541 (by decide +kernel) rfl ⟨Nat.le_of_ble_eq_true rfl, Nat.le_of_ble_eq_true rfl⟩ ⟨rfl, rfl⟩ rfl (Nat.le_of_ble_eq_true rfl) dX9_beat_2 ?_
  refine x_if_eq C 27 dX9_beat_5 rfl (fun hc => ?_) (fun hc => ?_)
  · replace h := x_itp hc h
    refine x_iconst C (-1 : Int32) dX9_beat_27 (by decide) ?_
    obtain ⟨rfl, rfl⟩ := x_ret h
    exact x_iret C dX9_beat_28
  · replace h := x_itn hc h
    refine x_iload_n C 2 dX9_beat_8 rfl rfl ?_
    refine x_iconst C (1 : Int32) dX9_beat_9 (by decide) ?_
    refine x_bipush C (120 : Int32) dX9_beat_10 (by decide) ?_
    obtain ⟨v2, σ2, hc2, h⟩ := x_b_some h
    refine x_callS C (n := 3) (c_X9_in hG hc2) wd_1531 wd_1532 wd_111 wd_1533 (by decide +kernel) rfl ⟨Nat.le_of_ble_eq_true rfl, Nat.le_of_ble_eq_true rfl⟩ ⟨rfl, rfl⟩ rfl (Nat.le_of_ble_eq_true rfl) dX9_beat_12 ?_
    refine x_if_eq C 27 dX9_beat_15 rfl (fun hc => ?_) (fun hc => ?_)
    · replace h := x_itp hc h
      refine x_iconst C (-1 : Int32) dX9_beat_27 (by decide) ?_
      obtain ⟨rfl, rfl⟩ := x_ret h
      exact x_iret C dX9_beat_28
    · replace h := x_itn hc h
      refine x_iload_n C 3 dX9_beat_18 rfl rfl ?_
      refine x_iconst C (0 : Int32) dX9_beat_19 (by decide) ?_
      refine x_iconst C (1 : Int32) dX9_beat_20 (by decide) ?_
      obtain ⟨v3, σ3, hc3, h⟩ := x_b_some h
      refine x_callS C (n := 3) (c_X9_in hG hc3) wd_1531 wd_1532 wd_111 wd_1533 (by decide +kernel) rfl ⟨Nat.le_of_ble_eq_true rfl, Nat.le_of_ble_eq_true rfl⟩ ⟨rfl, rfl⟩ rfl (Nat.le_of_ble_eq_true rfl) dX9_beat_21 ?_
      refine x_if_ne C 29 dX9_beat_24 rfl (fun hc => ?_) (fun hc => ?_)
      · replace h := x_itn hc h
        refine x_aload_n C 0 dX9_beat_29 rfl rfl ?_
        obtain ⟨v4, σ4, hc4, h⟩ := x_b_some h
        refine x_callV C (n := 0) (c_X9_isAwake hG hc4) kM_0 (by decide) rfl wd_1605 wd_1607 wd_81 wd_111 wd_1608 (by decide +kernel) rfl ⟨Nat.le_of_ble_eq_true rfl, Nat.le_of_ble_eq_true rfl⟩ ⟨rfl, rfl⟩ rfl (Nat.le_of_ble_eq_true rfl) dX9_beat_30 ?_
        refine x_if_ne C 39 dX9_beat_33 rfl (fun hc => ?_) (fun hc => ?_)
        · replace h := x_itn hc h
          refine x_iconst C (0 : Int32) dX9_beat_39 (by decide) ?_
          refine x_istore C [(4, .int (0 : Int32)), (0, .ref (x_ad G 0)), (1, .int x1), (2, .int x2), (3, .int x3)] dX9_beat_40 (by decide) rfl ?_
          refine x_iconst C (-1 : Int32) dX9_beat_42 (by decide) ?_
          refine x_istore C [(5, .int (-1 : Int32)), (4, .int (0 : Int32)), (0, .ref (x_ad G 0)), (1, .int x1), (2, .int x2), (3, .int x3)] dX9_beat_43 (by decide) rfl ?_
          refine x_iconst C (0 : Int32) dX9_beat_45 (by decide) ?_
          refine x_istore C [(6, .int (0 : Int32)), (5, .int (-1 : Int32)), (4, .int (0 : Int32)), (0, .ref (x_ad G 0)), (1, .int x1), (2, .int x2), (3, .int x3)] dX9_beat_46 (by decide) rfl ?_
          exact x_sub [3, 4, 5, 6, 2, 1, 0] rfl (w_X9_beat_48 C x_fuel x1 x2 x3 (0 : Int32) (-1 : Int32) (0 : Int32) σ4 h)
        · replace h := x_itp hc h
          refine x_bipush C (-2 : Int32) dX9_beat_36 (by decide) ?_
          obtain ⟨rfl, rfl⟩ := x_ret h
          exact x_iret C dX9_beat_38
      · replace h := x_itp hc h
        refine x_iconst C (-1 : Int32) dX9_beat_27 (by decide) ?_
        obtain ⟨rfl, rfl⟩ := x_ret h
        exact x_iret C dX9_beat_28
abbrev rm_X9_fewestOther : Room := { frames := 0, cells := 0, slots := 0, locals := 0 }
set_option maxHeartbeats 4000000 in
set_option maxRecDepth 100000 in
theorem w_X9_fewestOther_54 {r : Int32} {τ : x_Hp} (C : x_C p s m args meth c cX9_fewestOther 3 (some .int) yX9_fewestOther.cls TM G) {k4 : Int32 → Int32 → x_Hp → Option (Int32 × x_Hp)} (hk4 : ∀ (x1 : Int32) (x2 : Int32) (σ : x_Hp) (h : k4 x1 x2 σ = some (r, τ)), x_W p l e rm_X9_fewestOther s m args below meth c (MQ below (x_Q TM G (some (.int r)) τ) args s 0 0 (x_A TM G)) TM G 3 4 [(0, .ref (x_ad G 0)), (1, .int x1), (2, .int x2)] [] σ) (x1 : Int32) (x2 : Int32) (σ : x_Hp) (h : F_X9_fewestOther_54 k4 x1 x2 σ = some (r, τ)) : x_W p l e rm_X9_fewestOther s m args below meth c (MQ below (x_Q TM G (some (.int r)) τ) args s 0 0 (x_A TM G)) TM G 3 54 [(0, .ref (x_ad G 0)), (1, .int x1), (2, .int x2)] [] σ := by
  have hG : x_OK TM G := C.2.2.2.2.2.2.2.2.1
  rw [F_X9_fewestOther_54] at h
  refine x_iinc C 2 (x2 + (1 : Int32)) [(2, .int (x2 + (1 : Int32))), (0, .ref (x_ad G 0)), (1, .int x1)] dX9_fewestOther_54 rfl rfl (by decide) rfl ?_
  refine x_goto C 4 dX9_fewestOther_57 rfl ?_
  exact x_sub [1, 2, 0] rfl (hk4 x1 (x2 + (1 : Int32)) σ h)
set_option maxHeartbeats 4000000 in
set_option maxRecDepth 100000 in
theorem w_X9_fewestOther_52 {r : Int32} {τ : x_Hp} (C : x_C p s m args meth c cX9_fewestOther 3 (some .int) yX9_fewestOther.cls TM G) {k4 : Int32 → Int32 → x_Hp → Option (Int32 × x_Hp)} (hk4 : ∀ (x1 : Int32) (x2 : Int32) (σ : x_Hp) (h : k4 x1 x2 σ = some (r, τ)), x_W p l e rm_X9_fewestOther s m args below meth c (MQ below (x_Q TM G (some (.int r)) τ) args s 0 0 (x_A TM G)) TM G 3 4 [(0, .ref (x_ad G 0)), (1, .int x1), (2, .int x2)] [] σ) (x2 : Int32) (σ : x_Hp) (h : F_X9_fewestOther_52 k4 x2 σ = some (r, τ)) : x_W p l e rm_X9_fewestOther s m args below meth c (MQ below (x_Q TM G (some (.int r)) τ) args s 0 0 (x_A TM G)) TM G 3 52 [(0, .ref (x_ad G 0)), (2, .int x2)] [] σ := by
  have hG : x_OK TM G := C.2.2.2.2.2.2.2.2.1
  rw [F_X9_fewestOther_52] at h
  refine x_iload_n C 1 dX9_fewestOther_52 rfl rfl ?_
  refine x_istore_n C [(1, .int x2), (0, .ref (x_ad G 0)), (2, .int x2)] dX9_fewestOther_53 rfl (by decide) rfl ?_
  exact x_sub [1, 0, 2] rfl (w_X9_fewestOther_54 C hk4 x2 x2 σ h)
set_option maxHeartbeats 4000000 in
set_option maxRecDepth 100000 in
theorem w_X9_fewestOther_4 {r : Int32} {τ : x_Hp} (C : x_C p s m args meth c cX9_fewestOther 3 (some .int) yX9_fewestOther.cls TM G) : ∀ (n : Nat) (x1 : Int32) (x2 : Int32) (σ : x_Hp) (h : F_X9_fewestOther_4 n x1 x2 σ = some (r, τ)), x_W p l e rm_X9_fewestOther s m args below meth c (MQ below (x_Q TM G (some (.int r)) τ) args s 0 0 (x_A TM G)) TM G 3 4 [(0, .ref (x_ad G 0)), (1, .int x1), (2, .int x2)] [] σ := by
  intro n
  induction n with
  | zero => intro x1 x2 σ  h; cases h
  | succ n ih =>
    intro x1 x2 σ  h
    have hG : x_OK TM G := C.2.2.2.2.2.2.2.2.1
    rw [F_X9_fewestOther_4] at h
    refine x_iload_n C 2 dX9_fewestOther_4 rfl rfl ?_
    refine x_aload_n C 0 dX9_fewestOther_5 rfl rfl ?_
    refine x_getRq C (k := 23) kM_0 (by decide) rfl x_in9 (by decide) (by decide) rfl rfl wd_1231 rfM_0_23 dX9_fewestOther_6 ?_
    refine x_aload_n C 0 dX9_fewestOther_9 rfl rfl ?_
    refine x_getI C (k := 18) kM_0 (by decide) rfl x_in9 (by decide) (by decide) rfl rfl wd_1226 dX9_fewestOther_10 ?_
    obtain ⟨hi1, h⟩ := x_gd_some h
    refine x_iald C kM_10 (x_inl lnM_10 hi1) dX9_fewestOther_13 ?_
    refine x_icmp_ge C 60 dX9_fewestOther_14 rfl (fun hc => ?_) (fun hc => ?_)
    · replace h := x_itp hc h
      refine x_iload_n C 1 dX9_fewestOther_60 rfl rfl ?_
      obtain ⟨rfl, rfl⟩ := x_ret h
      exact x_iret C dX9_fewestOther_61
    · replace h := x_itn hc h
      refine x_iload_n C 2 dX9_fewestOther_17 rfl rfl ?_
      refine x_aload_n C 0 dX9_fewestOther_18 rfl rfl ?_
      refine x_getRq C (k := 49) kM_0 (by decide) rfl x_in9 (by decide) (by decide) rfl rfl wd_1257 rfM_0_49 dX9_fewestOther_19 ?_
      refine x_iconst C (4 : Int32) dX9_fewestOther_22 (by decide) ?_
      refine x_ialdJ C kM_32 (x_inl lnM_32 (by decide)) (j := 4) (by decide) dX9_fewestOther_23 ?_
      refine x_icmp_eq C 54 dX9_fewestOther_24 rfl (fun hc => ?_) (fun hc => ?_)
      · replace h := x_itp hc h
        exact x_sub [0, 1, 2] rfl (w_X9_fewestOther_54 C ih x1 x2 σ h)
      · replace h := x_itn hc h
        refine x_iload_n C 1 dX9_fewestOther_27 rfl rfl ?_
        refine x_if_lt C 52 dX9_fewestOther_28 rfl (fun hc => ?_) (fun hc => ?_)
        · replace h := x_itp hc h
          exact x_sub [0, 2] rfl (w_X9_fewestOther_52 C ih x2 σ h)
        · replace h := x_itn hc h
          refine x_aload_n C 0 dX9_fewestOther_31 rfl rfl ?_
          refine x_getRq C (k := 49) kM_0 (by decide) rfl x_in9 (by decide) (by decide) rfl rfl wd_1257 rfM_0_49 dX9_fewestOther_32 ?_
          refine x_bipush C (20 : Int32) dX9_fewestOther_35 (by decide) ?_
          refine x_iload_n C 2 dX9_fewestOther_37 rfl rfl ?_
          refine x_iadd C dX9_fewestOther_38 ?_
          obtain ⟨hi2, h⟩ := x_gd_some h
          refine x_iald C kM_32 (x_inl lnM_32 hi2) dX9_fewestOther_39 ?_
          refine x_aload_n C 0 dX9_fewestOther_40 rfl rfl ?_
          refine x_getRq C (k := 49) kM_0 (by decide) rfl x_in9 (by decide) (by decide) rfl rfl wd_1257 rfM_0_49 dX9_fewestOther_41 ?_
          refine x_bipush C (20 : Int32) dX9_fewestOther_44 (by decide) ?_
          refine x_iload_n C 1 dX9_fewestOther_46 rfl rfl ?_
          refine x_iadd C dX9_fewestOther_47 ?_
          obtain ⟨hi3, h⟩ := x_gd_some h
          refine x_iald C kM_32 (x_inl lnM_32 hi3) dX9_fewestOther_48 ?_
          refine x_icmp_ge C 54 dX9_fewestOther_49 rfl (fun hc => ?_) (fun hc => ?_)
          · replace h := x_itp hc h
            exact x_sub [0, 1, 2] rfl (w_X9_fewestOther_54 C ih x1 x2 σ h)
          · replace h := x_itn hc h
            exact x_sub [0, 2] rfl (w_X9_fewestOther_52 C ih x2 σ h)
set_option maxHeartbeats 4000000 in
set_option maxRecDepth 100000 in
theorem c_X9_fewestOther (hG : x_OK TM G) {σ τ : x_Hp} {r : Int32} (h : F_X9_fewestOther σ = some (r, τ)) : x_M l TM G yX9_fewestOther cX9_fewestOther 3 (some .int) rm_X9_fewestOther [.ref (x_ad G 0)] σ (some (.int r)) τ := by
  refine x_M.of hG (lv := [(0, .ref (x_ad G 0))]) (by decide) (Nat.le_of_ble_eq_true rfl) rfl (fun p e s m below meth c C => ?_)
  rw [F_X9_fewestOther] at h
  refine x_iconst C (-1 : Int32) dX9_fewestOther_0 (by decide) ?_
  refine x_istore_n C [(1, .int (-1 : Int32)), (0, .ref (x_ad G 0))] dX9_fewestOther_1 rfl (by decide) rfl ?_
  refine x_iconst C (0 : Int32) dX9_fewestOther_2 (by decide) ?_
  refine x_istore_n C [(2, .int (0 : Int32)), (1, .int (-1 : Int32)), (0, .ref (x_ad G 0))] dX9_fewestOther_3 rfl (by decide) rfl ?_
  exact x_sub [2, 1, 0] rfl (w_X9_fewestOther_4 C x_fuel (-1 : Int32) (0 : Int32) σ h)
abbrev rm_X9_rounds : Room := { frames := 5, cells := 0, slots := 0, locals := 119 }
set_option maxHeartbeats 4000000 in
set_option maxRecDepth 100000 in
theorem w_X9_rounds_121 {τ : x_Hp} (C : x_C p s m args meth c cX9_rounds 6 none yX9_rounds.cls TM G) {k7 : Int32 → Int32 → Int32 → Int32 → x_Hp → Option (Unit × x_Hp)} (hk7 : ∀ (x1 : Int32) (x2 : Int32) (x3 : Int32) (x4 : Int32) (σ : x_Hp) (h : k7 x1 x2 x3 x4 σ = some ((), τ)), x_W p l e rm_X9_rounds s m args below meth c (MQ below (x_Q TM G none τ) args s 0 0 (x_A TM G)) TM G 6 7 [(0, .ref (x_ad G 0)), (1, .int x1), (2, .int x2), (3, .int x3), (4, .int x4)] [] σ) (x1 : Int32) (x2 : Int32) (x3 : Int32) (x4 : Int32) (σ : x_Hp) (h : F_X9_rounds_121 k7 x1 x2 x3 x4 σ = some ((), τ)) : x_W p l e rm_X9_rounds s m args below meth c (MQ below (x_Q TM G none τ) args s 0 0 (x_A TM G)) TM G 6 121 [(0, .ref (x_ad G 0)), (1, .int x1), (2, .int x2), (3, .int x3), (4, .int x4)] [] σ := by
  have hG : x_OK TM G := C.2.2.2.2.2.2.2.2.1
  rw [F_X9_rounds_121] at h
  refine x_aload_n C 0 dX9_rounds_121 rfl rfl ?_
  obtain ⟨v5, σ5, hc5, h⟩ := x_b_some h
  refine x_callV C (n := 0) (c_X9_minuteGoes hG hc5) kM_0 (by decide) rfl wd_1573 wd_1575 wd_75 wd_111 wd_1576 (by decide +kernel) rfl ⟨Nat.le_of_ble_eq_true rfl, Nat.le_of_ble_eq_true rfl⟩ ⟨rfl, rfl⟩ rfl (Nat.le_of_ble_eq_true rfl) dX9_rounds_122 ?_
  refine x_iinc C 4 (x4 + (1 : Int32)) [(4, .int (x4 + (1 : Int32))), (0, .ref (x_ad G 0)), (1, .int x1), (2, .int x2), (3, .int x3)] dX9_rounds_125 rfl rfl (by decide) rfl ?_
  refine x_goto C 7 dX9_rounds_128 rfl ?_
  exact x_sub [1, 2, 3, 4, 0] rfl (hk7 x1 x2 x3 (x4 + (1 : Int32)) σ5 h)
set_option maxHeartbeats 4000000 in
set_option maxRecDepth 100000 in
theorem w_X9_rounds_118 {τ : x_Hp} (C : x_C p s m args meth c cX9_rounds 6 none yX9_rounds.cls TM G) {k7 : Int32 → Int32 → Int32 → Int32 → x_Hp → Option (Unit × x_Hp)} (hk7 : ∀ (x1 : Int32) (x2 : Int32) (x3 : Int32) (x4 : Int32) (σ : x_Hp) (h : k7 x1 x2 x3 x4 σ = some ((), τ)), x_W p l e rm_X9_rounds s m args below meth c (MQ below (x_Q TM G none τ) args s 0 0 (x_A TM G)) TM G 6 7 [(0, .ref (x_ad G 0)), (1, .int x1), (2, .int x2), (3, .int x3), (4, .int x4)] [] σ) (x1 : Int32) (x2 : Int32) (x3 : Int32) (x4 : Int32) (s0 : Int32) (σ : x_Hp) (h : F_X9_rounds_118 k7 x1 x2 x3 x4 s0 σ = some ((), τ)) : x_W p l e rm_X9_rounds s m args below meth c (MQ below (x_Q TM G none τ) args s 0 0 (x_A TM G)) TM G 6 118 [(0, .ref (x_ad G 0)), (1, .int x1), (2, .int x2), (3, .int x3), (4, .int x4)] [.int s0, .ref (x_ad G 0)] σ := by
  have hG : x_OK TM G := C.2.2.2.2.2.2.2.2.1
  rw [F_X9_rounds_118] at h
  obtain ⟨v6, σ6, hc6, h⟩ := x_b_some h
  refine x_callV C (n := 1) (c_X9_hands hG hc6) kM_0 (by decide) rfl wd_1609 wd_1611 wd_82 wd_111 wd_1612 (by decide +kernel) rfl ⟨Nat.le_of_ble_eq_true rfl, Nat.le_of_ble_eq_true rfl⟩ ⟨rfl, rfl⟩ rfl (Nat.le_of_ble_eq_true rfl) dX9_rounds_118 ?_
  exact x_sub [0, 1, 2, 3, 4] rfl (w_X9_rounds_121 C hk7 x1 x2 x3 x4 σ6 h)
set_option maxHeartbeats 4000000 in
set_option maxRecDepth 100000 in
theorem w_X9_rounds_57 {τ : x_Hp} (C : x_C p s m args meth c cX9_rounds 6 none yX9_rounds.cls TM G) {k7 : Int32 → Int32 → Int32 → Int32 → x_Hp → Option (Unit × x_Hp)} (hk7 : ∀ (x1 : Int32) (x2 : Int32) (x3 : Int32) (x4 : Int32) (σ : x_Hp) (h : k7 x1 x2 x3 x4 σ = some ((), τ)), x_W p l e rm_X9_rounds s m args below meth c (MQ below (x_Q TM G none τ) args s 0 0 (x_A TM G)) TM G 6 7 [(0, .ref (x_ad G 0)), (1, .int x1), (2, .int x2), (3, .int x3), (4, .int x4)] [] σ) (x1 : Int32) (x2 : Int32) (x3 : Int32) (x4 : Int32) (s0 : Int32) (σ : x_Hp) (h : F_X9_rounds_57 k7 x1 x2 x3 x4 s0 σ = some ((), τ)) : x_W p l e rm_X9_rounds s m args below meth c (MQ below (x_Q TM G none τ) args s 0 0 (x_A TM G)) TM G 6 57 [(0, .ref (x_ad G 0)), (1, .int x1), (2, .int x2), (3, .int x3), (4, .int x4)] [.int s0] σ := by
  have hG : x_OK TM G := C.2.2.2.2.2.2.2.2.1
  rw [F_X9_rounds_57] at h
  refine x_istore C [(5, .int s0), (0, .ref (x_ad G 0)), (1, .int x1), (2, .int x2), (3, .int x3), (4, .int x4)] dX9_rounds_57 (by decide) rfl ?_
  refine x_iload C 0 dX9_rounds_59 rfl ?_
  refine x_if_eq C 121 dX9_rounds_61 rfl (fun hc => ?_) (fun hc => ?_)
  · replace h := x_itp hc h
    exact x_sub [1, 2, 3, 4, 5] rfl (w_X9_rounds_121 C hk7 x1 x2 x3 x4 σ h)
  · replace h := x_itn hc h
    refine x_aload_n C 1 dX9_rounds_64 rfl rfl ?_
    refine x_getRq C (k := 49) kM_0 (by decide) rfl x_in9 (by decide) (by decide) rfl rfl wd_1257 rfM_0_49 dX9_rounds_65 ?_
    refine x_bipush C (7 : Int32) dX9_rounds_68 (by decide) ?_
    refine x_ialdJ C kM_32 (x_inl lnM_32 (by decide)) (j := 7) (by decide) dX9_rounds_70 ?_
    refine x_if_ne C 121 dX9_rounds_71 rfl (fun hc => ?_) (fun hc => ?_)
    · replace h := x_itn hc h
      exact x_sub [1, 2, 3, 4, 5] rfl (w_X9_rounds_121 C hk7 x1 x2 x3 x4 σ h)
    · replace h := x_itp hc h
      refine x_aload_n C 1 dX9_rounds_74 rfl rfl ?_
      refine x_getRq C (k := 23) kM_0 (by decide) rfl x_in9 (by decide) (by decide) rfl rfl wd_1231 rfM_0_23 dX9_rounds_75 ?_
      refine x_aload_n C 1 dX9_rounds_78 rfl rfl ?_
      refine x_getI C (k := 18) kM_0 (by decide) rfl x_in9 (by decide) (by decide) rfl rfl wd_1226 dX9_rounds_79 ?_
      obtain ⟨hi2, h⟩ := x_gd_some h
      refine x_iald C kM_10 (x_inl lnM_10 hi2) dX9_rounds_82 ?_
      refine x_iconst C (1 : Int32) dX9_rounds_83 (by decide) ?_
      refine x_icmp_le C 121 dX9_rounds_84 rfl (fun hc => ?_) (fun hc => ?_)
      · replace h := x_itp hc h
        exact x_sub [1, 2, 3, 4, 5] rfl (w_X9_rounds_121 C hk7 x1 x2 x3 x4 σ h)
      · replace h := x_itn hc h
        refine x_aload_n C 1 dX9_rounds_87 rfl rfl ?_
        refine x_iload_n C 2 dX9_rounds_88 rfl rfl ?_
        refine x_iconst C (2 : Int32) dX9_rounds_89 (by decide) ?_
        refine x_icmp_ne C 100 dX9_rounds_90 rfl (fun hc => ?_) (fun hc => ?_)
        · replace h := x_itn hc h
          refine x_aload_n C 1 dX9_rounds_100 rfl rfl ?_
          refine x_getRq C (k := 49) kM_0 (by decide) rfl x_in9 (by decide) (by decide) rfl rfl wd_1257 rfM_0_49 dX9_rounds_101 ?_
          refine x_iconst C (4 : Int32) dX9_rounds_104 (by decide) ?_
          refine x_ialdJ C kM_32 (x_inl lnM_32 (by decide)) (j := 4) (by decide) dX9_rounds_105 ?_
          refine x_iconst C (1 : Int32) dX9_rounds_106 (by decide) ?_
          refine x_iadd C dX9_rounds_107 ?_
          refine x_aload_n C 1 dX9_rounds_108 rfl rfl ?_
          refine x_getRq C (k := 23) kM_0 (by decide) rfl x_in9 (by decide) (by decide) rfl rfl wd_1231 rfM_0_23 dX9_rounds_109 ?_
          refine x_aload_n C 1 dX9_rounds_112 rfl rfl ?_
          refine x_getI C (k := 18) kM_0 (by decide) rfl x_in9 (by decide) (by decide) rfl rfl wd_1226 dX9_rounds_113 ?_
          obtain ⟨hi3, h⟩ := x_gd_some h
          refine x_iald C kM_10 (x_inl lnM_10 hi3) dX9_rounds_116 ?_
          obtain ⟨hg, h⟩ := x_gd_some h
          refine x_irem C dX9_rounds_117 (x_ne0 hg) ?_
          exact x_sub [1, 2, 3, 4, 5] rfl (w_X9_rounds_118 C hk7 x1 x2 x3 x4 (((σ.1 32 4) + (1 : Int32)) - ((σ.1 32 4) + (1 : Int32)) / (σ.1 10 (x_ix (σ.1 0 18))) * (σ.1 10 (x_ix (σ.1 0 18)))) σ h)
        · replace h := x_itp hc h
          refine x_aload_n C 1 dX9_rounds_93 rfl rfl ?_
          obtain ⟨v4, σ4, hc4, h⟩ := x_b_some h
          refine x_callV C (n := 0) (c_X9_fewestOther hG hc4) kM_0 (by decide) rfl wd_1745 wd_1747 wd_97 wd_111 wd_1748 (by decide +kernel) rfl ⟨Nat.le_of_ble_eq_true rfl, Nat.le_of_ble_eq_true rfl⟩ ⟨rfl, rfl⟩ rfl (Nat.le_of_ble_eq_true rfl) dX9_rounds_94 ?_
          refine x_goto C 118 dX9_rounds_97 rfl ?_
          exact x_sub [1, 2, 3, 4, 5] rfl (w_X9_rounds_118 C hk7 x1 x2 x3 x4 v4 σ4 h)
set_option maxHeartbeats 4000000 in
set_option maxRecDepth 100000 in
theorem w_X9_rounds_56 {τ : x_Hp} (C : x_C p s m args meth c cX9_rounds 6 none yX9_rounds.cls TM G) {k7 : Int32 → Int32 → Int32 → Int32 → x_Hp → Option (Unit × x_Hp)} (hk7 : ∀ (x1 : Int32) (x2 : Int32) (x3 : Int32) (x4 : Int32) (σ : x_Hp) (h : k7 x1 x2 x3 x4 σ = some ((), τ)), x_W p l e rm_X9_rounds s m args below meth c (MQ below (x_Q TM G none τ) args s 0 0 (x_A TM G)) TM G 6 7 [(0, .ref (x_ad G 0)), (1, .int x1), (2, .int x2), (3, .int x3), (4, .int x4)] [] σ) (x1 : Int32) (x2 : Int32) (x3 : Int32) (x4 : Int32) (σ : x_Hp) (h : F_X9_rounds_56 k7 x1 x2 x3 x4 σ = some ((), τ)) : x_W p l e rm_X9_rounds s m args below meth c (MQ below (x_Q TM G none τ) args s 0 0 (x_A TM G)) TM G 6 56 [(0, .ref (x_ad G 0)), (1, .int x1), (2, .int x2), (3, .int x3), (4, .int x4)] [] σ := by
  have hG : x_OK TM G := C.2.2.2.2.2.2.2.2.1
  rw [F_X9_rounds_56] at h
  refine x_iconst C (0 : Int32) dX9_rounds_56 (by decide) ?_
  exact x_sub [0, 1, 2, 3, 4] rfl (w_X9_rounds_57 C hk7 x1 x2 x3 x4 (0 : Int32) σ h)
set_option maxHeartbeats 4000000 in
set_option maxRecDepth 100000 in
theorem w_X9_rounds_7 {τ : x_Hp} (C : x_C p s m args meth c cX9_rounds 6 none yX9_rounds.cls TM G) : ∀ (n : Nat) (x1 : Int32) (x2 : Int32) (x3 : Int32) (x4 : Int32) (σ : x_Hp) (h : F_X9_rounds_7 n x1 x2 x3 x4 σ = some ((), τ)), x_W p l e rm_X9_rounds s m args below meth c (MQ below (x_Q TM G none τ) args s 0 0 (x_A TM G)) TM G 6 7 [(0, .ref (x_ad G 0)), (1, .int x1), (2, .int x2), (3, .int x3), (4, .int x4)] [] σ := by
  intro n
  induction n with
  | zero => intro x1 x2 x3 x4 σ  h; cases h
  | succ n ih =>
    intro x1 x2 x3 x4 σ  h
    have hG : x_OK TM G := C.2.2.2.2.2.2.2.2.1
    rw [F_X9_rounds_7] at h
    refine x_iload C 4 dX9_rounds_7 rfl ?_
    refine x_iload_n C 3 dX9_rounds_9 rfl rfl ?_
    refine x_icmp_ge C 131 dX9_rounds_10 rfl (fun hc => ?_) (fun hc => ?_)
    · replace h := x_itp hc h
      obtain ⟨-, rfl⟩ := x_ret h
      exact x_vret C dX9_rounds_131
    · replace h := x_itn hc h
      refine x_iload_n C 1 dX9_rounds_13 rfl rfl ?_
      refine x_iconst C (1 : Int32) dX9_rounds_14 (by decide) ?_
      refine x_icmp_ne C 37 dX9_rounds_15 rfl (fun hc => ?_) (fun hc => ?_)
      · replace h := x_itn hc h
        refine x_iload_n C 1 dX9_rounds_37 rfl rfl ?_
        refine x_iconst C (3 : Int32) dX9_rounds_38 (by decide) ?_
        refine x_icmp_eq C 56 dX9_rounds_39 rfl (fun hc => ?_) (fun hc => ?_)
        · replace h := x_itp hc h
          exact x_sub [0, 1, 2, 3, 4] rfl (w_X9_rounds_56 C ih x1 x2 x3 x4 σ h)
        · replace h := x_itn hc h
          refine x_aload_n C 0 dX9_rounds_42 rfl rfl ?_
          refine x_getRq C (k := 49) kM_0 (by decide) rfl x_in9 (by decide) (by decide) rfl rfl wd_1257 rfM_0_49 dX9_rounds_43 ?_
          refine x_iconst C (5 : Int32) dX9_rounds_46 (by decide) ?_
          refine x_ialdJ C kM_32 (x_inl lnM_32 (by decide)) (j := 5) (by decide) dX9_rounds_47 ?_
          refine x_iload_n C 2 dX9_rounds_48 rfl rfl ?_
          refine x_icmp_lt C 56 dX9_rounds_49 rfl (fun hc => ?_) (fun hc => ?_)
          · replace h := x_itp hc h
            exact x_sub [0, 1, 2, 3, 4] rfl (w_X9_rounds_56 C ih x1 x2 x3 x4 σ h)
          · replace h := x_itn hc h
            refine x_iconst C (1 : Int32) dX9_rounds_52 (by decide) ?_
            refine x_goto C 57 dX9_rounds_53 rfl ?_
            exact x_sub [0, 1, 2, 3, 4] rfl (w_X9_rounds_57 C ih x1 x2 x3 x4 (1 : Int32) σ h)
      · replace h := x_itp hc h
        refine x_aload_n C 0 dX9_rounds_18 rfl rfl ?_
        refine x_getRq C (k := 49) kM_0 (by decide) rfl x_in9 (by decide) (by decide) rfl rfl wd_1257 rfM_0_49 dX9_rounds_19 ?_
        refine x_bipush C (6 : Int32) dX9_rounds_22 (by decide) ?_
        refine x_ialdJ C kM_32 (x_inl lnM_32 (by decide)) (j := 6) (by decide) dX9_rounds_24 ?_
        refine x_iload_n C 2 dX9_rounds_25 rfl rfl ?_
        refine x_icmp_lt C 33 dX9_rounds_26 rfl (fun hc => ?_) (fun hc => ?_)
        · replace h := x_itp hc h
          refine x_iconst C (0 : Int32) dX9_rounds_33 (by decide) ?_
          refine x_goto C 57 dX9_rounds_34 rfl ?_
          exact x_sub [0, 1, 2, 3, 4] rfl (w_X9_rounds_57 C ih x1 x2 x3 x4 (0 : Int32) σ h)
        · replace h := x_itn hc h
          refine x_iconst C (1 : Int32) dX9_rounds_29 (by decide) ?_
          refine x_goto C 57 dX9_rounds_30 rfl ?_
          exact x_sub [0, 1, 2, 3, 4] rfl (w_X9_rounds_57 C ih x1 x2 x3 x4 (1 : Int32) σ h)
set_option maxHeartbeats 4000000 in
set_option maxRecDepth 100000 in
theorem c_X9_rounds (hG : x_OK TM G) {x1 : Int32} {x2 : Int32} {x3 : Int32} {σ τ : x_Hp} (h : F_X9_rounds x1 x2 x3 σ = some ((), τ)) : x_M l TM G yX9_rounds cX9_rounds 6 none rm_X9_rounds [.ref (x_ad G 0), .int x1, .int x2, .int x3] σ none τ := by
  refine x_M.of hG (lv := [(0, .ref (x_ad G 0)), (1, .int x1), (2, .int x2), (3, .int x3)]) (by decide) (Nat.le_of_ble_eq_true rfl) rfl (fun p e s m below meth c C => ?_)
  rw [F_X9_rounds] at h
  refine x_aload_n C 0 dX9_rounds_0 rfl rfl ?_
  obtain ⟨v1, σ1, hc1, h⟩ := x_b_some h
  refine x_callV C (n := 0) (c_X9_copies hG hc1) kM_0 (by decide) rfl wd_1546 wd_1548 wd_70 wd_111 wd_1549 (by decide +kernel) rfl ⟨Nat.le_of_ble_eq_true rfl, Nat.le_of_ble_eq_true rfl⟩ ⟨rfl, rfl⟩ rfl (Nat.le_of_ble_eq_true rfl) dX9_rounds_1 ?_
  refine x_iconst C (0 : Int32) dX9_rounds_4 (by decide) ?_
  refine x_istore C [(4, .int (0 : Int32)), (0, .ref (x_ad G 0)), (1, .int x1), (2, .int x2), (3, .int x3)] dX9_rounds_5 (by decide) rfl ?_
  exact x_sub [1, 2, 3, 4, 0] rfl (w_X9_rounds_7 C x_fuel x1 x2 x3 (0 : Int32) σ1 h)
abbrev rm_X9_round : Room := { frames := 6, cells := 0, slots := 0, locals := 144 }
set_option maxHeartbeats 4000000 in
set_option maxRecDepth 100000 in
theorem c_X9_round (hG : x_OK TM G) {x1 : Int32} {x2 : Int32} {x3 : Int32} {x4 : Int32} {σ τ : x_Hp} {r : Int32} (h : F_X9_round x1 x2 x3 x4 σ = some (r, τ)) : x_M l TM G yX9_round cX9_round 5 (some .int) rm_X9_round [.ref (x_ad G 0), .int x1, .int x2, .int x3, .int x4] σ (some (.int r)) τ := by
  refine x_M.of hG (lv := [(0, .ref (x_ad G 0)), (1, .int x1), (2, .int x2), (3, .int x3), (4, .int x4)]) (by decide) (Nat.le_of_ble_eq_true rfl) rfl (fun p e s m below meth c C => ?_)
  rw [F_X9_round] at h
  refine x_aload_n C 0 dX9_round_0 rfl rfl ?_
  refine x_getRq C (k := 23) kM_0 (by decide) rfl x_in9 (by decide) (by decide) rfl rfl wd_1231 rfM_0_23 dX9_round_1 ?_
  refine x_aload_n C 0 dX9_round_4 rfl rfl ?_
  refine x_getI C (k := 18) kM_0 (by decide) rfl x_in9 (by decide) (by decide) rfl rfl wd_1226 dX9_round_5 ?_
  obtain ⟨hi1, h⟩ := x_gd_some h
  refine x_iald C kM_10 (x_inl lnM_10 hi1) dX9_round_8 ?_
  refine x_if_eq C 52 dX9_round_9 rfl (fun hc => ?_) (fun hc => ?_)
  · replace h := x_itp hc h
    refine x_iconst C (-1 : Int32) dX9_round_52 (by decide) ?_
    obtain ⟨rfl, rfl⟩ := x_ret h
    exact x_iret C dX9_round_53
  · replace h := x_itn hc h
    refine x_iload_n C 1 dX9_round_12 rfl rfl ?_
    refine x_iconst C (0 : Int32) dX9_round_13 (by decide) ?_
    refine x_iconst C (3 : Int32) dX9_round_14 (by decide) ?_
    obtain ⟨v2, σ2, hc2, h⟩ := x_b_some h
    refine x_callS C (n := 3) (c_X9_in hG hc2) wd_1531 wd_1532 wd_111 wd_1533 (by decide +kernel) rfl ⟨Nat.le_of_ble_eq_true rfl, Nat.le_of_ble_eq_true rfl⟩ ⟨rfl, rfl⟩ rfl (Nat.le_of_ble_eq_true rfl) dX9_round_15 ?_
    refine x_if_eq C 52 dX9_round_18 rfl (fun hc => ?_) (fun hc => ?_)
    · replace h := x_itp hc h
      refine x_iconst C (-1 : Int32) dX9_round_52 (by decide) ?_
      obtain ⟨rfl, rfl⟩ := x_ret h
      exact x_iret C dX9_round_53
    · replace h := x_itn hc h
      refine x_iload_n C 2 dX9_round_21 rfl rfl ?_
      refine x_iconst C (1 : Int32) dX9_round_22 (by decide) ?_
      refine x_bipush C (20 : Int32) dX9_round_23 (by decide) ?_
      obtain ⟨v3, σ3, hc3, h⟩ := x_b_some h
      refine x_callS C (n := 3) (c_X9_in hG hc3) wd_1531 wd_1532 wd_111 wd_1533 (by decide +kernel) rfl ⟨Nat.le_of_ble_eq_true rfl, Nat.le_of_ble_eq_true rfl⟩ ⟨rfl, rfl⟩ rfl (Nat.le_of_ble_eq_true rfl) dX9_round_25 ?_
      refine x_if_eq C 52 dX9_round_28 rfl (fun hc => ?_) (fun hc => ?_)
      · replace h := x_itp hc h
        refine x_iconst C (-1 : Int32) dX9_round_52 (by decide) ?_
        obtain ⟨rfl, rfl⟩ := x_ret h
        exact x_iret C dX9_round_53
      · replace h := x_itn hc h
        refine x_iload_n C 3 dX9_round_31 rfl rfl ?_
        refine x_iconst C (1 : Int32) dX9_round_32 (by decide) ?_
        refine x_sipush C (240 : Int32) dX9_round_33 (by decide) ?_
        obtain ⟨v4, σ4, hc4, h⟩ := x_b_some h
        refine x_callS C (n := 3) (c_X9_in hG hc4) wd_1531 wd_1532 wd_111 wd_1533 (by decide +kernel) rfl ⟨Nat.le_of_ble_eq_true rfl, Nat.le_of_ble_eq_true rfl⟩ ⟨rfl, rfl⟩ rfl (Nat.le_of_ble_eq_true rfl) dX9_round_36 ?_
        refine x_if_eq C 52 dX9_round_39 rfl (fun hc => ?_) (fun hc => ?_)
        · replace h := x_itp hc h
          refine x_iconst C (-1 : Int32) dX9_round_52 (by decide) ?_
          obtain ⟨rfl, rfl⟩ := x_ret h
          exact x_iret C dX9_round_53
        · replace h := x_itn hc h
          refine x_iload C 4 dX9_round_42 rfl ?_
          refine x_iconst C (0 : Int32) dX9_round_44 (by decide) ?_
          refine x_iconst C (2 : Int32) dX9_round_45 (by decide) ?_
          obtain ⟨v5, σ5, hc5, h⟩ := x_b_some h
          refine x_callS C (n := 3) (c_X9_in hG hc5) wd_1531 wd_1532 wd_111 wd_1533 (by decide +kernel) rfl ⟨Nat.le_of_ble_eq_true rfl, Nat.le_of_ble_eq_true rfl⟩ ⟨rfl, rfl⟩ rfl (Nat.le_of_ble_eq_true rfl) dX9_round_46 ?_
          refine x_if_ne C 54 dX9_round_49 rfl (fun hc => ?_) (fun hc => ?_)
          · replace h := x_itn hc h
            refine x_aload_n C 0 dX9_round_54 rfl rfl ?_
            refine x_iload_n C 1 dX9_round_55 rfl rfl ?_
            refine x_iload_n C 2 dX9_round_56 rfl rfl ?_
            refine x_iload_n C 3 dX9_round_57 rfl rfl ?_
            obtain ⟨v6, σ6, hc6, h⟩ := x_b_some h
            refine x_callV C (n := 3) (c_X9_rounds hG hc6) kM_0 (by decide) rfl wd_1741 wd_1743 wd_96 wd_111 wd_1744 (by decide +kernel) rfl ⟨Nat.le_of_ble_eq_true rfl, Nat.le_of_ble_eq_true rfl⟩ ⟨rfl, rfl⟩ rfl (Nat.le_of_ble_eq_true rfl) dX9_round_58 ?_
            refine x_iload C 4 dX9_round_61 rfl ?_
            refine x_if_ne C 84 dX9_round_63 rfl (fun hc => ?_) (fun hc => ?_)
            · replace h := x_itn hc h
              refine x_iload C 4 dX9_round_84 rfl ?_
              refine x_iconst C (1 : Int32) dX9_round_86 (by decide) ?_
              refine x_icmp_ne C 108 dX9_round_87 rfl (fun hc => ?_) (fun hc => ?_)
              · replace h := x_itn hc h
                refine x_aload_n C 0 dX9_round_108 rfl rfl ?_
                refine x_getRq C (k := 49) kM_0 (by decide) rfl x_in9 (by decide) (by decide) rfl rfl wd_1257 rfM_0_49 dX9_round_109 ?_
                refine x_iconst C (4 : Int32) dX9_round_112 (by decide) ?_
                refine x_ialdJ C kM_32 (x_inl lnM_32 (by decide)) (j := 4) (by decide) dX9_round_113 ?_
                obtain ⟨rfl, rfl⟩ := x_ret h
                exact x_iret C dX9_round_114
              · replace h := x_itp hc h
                refine x_aload_n C 0 dX9_round_90 rfl rfl ?_
                refine x_getRq C (k := 49) kM_0 (by decide) rfl x_in9 (by decide) (by decide) rfl rfl wd_1257 rfM_0_49 dX9_round_91 ?_
                refine x_bipush C (14 : Int32) dX9_round_94 (by decide) ?_
                refine x_ialdJ C kM_32 (x_inl lnM_32 (by decide)) (j := 14) (by decide) dX9_round_96 ?_
                refine x_aload_n C 0 dX9_round_97 rfl rfl ?_
                refine x_getRq C (k := 48) kM_0 (by decide) rfl x_in9 (by decide) (by decide) rfl rfl wd_1256 rfM_0_48 dX9_round_98 ?_
                refine x_bipush C (14 : Int32) dX9_round_101 (by decide) ?_
                refine x_ialdJ C kM_31 (x_inl lnM_31 (by decide)) (j := 14) (by decide) dX9_round_103 ?_
                refine x_isub C dX9_round_104 ?_
                refine x_goto C 114 dX9_round_105 rfl ?_
                obtain ⟨rfl, rfl⟩ := x_ret h
                exact x_iret C dX9_round_114
            · replace h := x_itp hc h
              refine x_aload_n C 0 dX9_round_66 rfl rfl ?_
              refine x_getRq C (k := 49) kM_0 (by decide) rfl x_in9 (by decide) (by decide) rfl rfl wd_1257 rfM_0_49 dX9_round_67 ?_
              refine x_bipush C (13 : Int32) dX9_round_70 (by decide) ?_
              refine x_ialdJ C kM_32 (x_inl lnM_32 (by decide)) (j := 13) (by decide) dX9_round_72 ?_
              refine x_aload_n C 0 dX9_round_73 rfl rfl ?_
              refine x_getRq C (k := 48) kM_0 (by decide) rfl x_in9 (by decide) (by decide) rfl rfl wd_1256 rfM_0_48 dX9_round_74 ?_
              refine x_bipush C (13 : Int32) dX9_round_77 (by decide) ?_
              refine x_ialdJ C kM_31 (x_inl lnM_31 (by decide)) (j := 13) (by decide) dX9_round_79 ?_
              refine x_isub C dX9_round_80 ?_
              refine x_goto C 114 dX9_round_81 rfl ?_
              obtain ⟨rfl, rfl⟩ := x_ret h
              exact x_iret C dX9_round_114
          · replace h := x_itp hc h
            refine x_iconst C (-1 : Int32) dX9_round_52 (by decide) ?_
            obtain ⟨rfl, rfl⟩ := x_ret h
            exact x_iret C dX9_round_53
abbrev rm_X9_bestRound : Room := { frames := 6, cells := 0, slots := 0, locals := 144 }
set_option maxHeartbeats 4000000 in
set_option maxRecDepth 100000 in
theorem w_X9_bestRound_111 {r : Int32} {τ : x_Hp} (C : x_C p s m args meth c cX9_bestRound 8 (some .int) yX9_bestRound.cls TM G) {k41 : Int32 → Int32 → Int32 → Int32 → Int32 → x_Hp → Option (Int32 × x_Hp)} (hk41 : ∀ (x1 : Int32) (x2 : Int32) (x3 : Int32) (x4 : Int32) (x5 : Int32) (σ : x_Hp) (h : k41 x1 x2 x3 x4 x5 σ = some (r, τ)), x_W p l e rm_X9_bestRound s m args below meth c (MQ below (x_Q TM G (some (.int r)) τ) args s 0 0 (x_A TM G)) TM G 8 41 [(0, .ref (x_ad G 0)), (1, .int x1), (2, .int x2), (3, .int x3), (4, .int x4), (5, .int x5)] [] σ) {k50 : Int32 → Int32 → Int32 → Int32 → Int32 → Int32 → x_Hp → Option (Int32 × x_Hp)} (hk50 : ∀ (x1 : Int32) (x2 : Int32) (x3 : Int32) (x4 : Int32) (x5 : Int32) (x6 : Int32) (σ : x_Hp) (h : k50 x1 x2 x3 x4 x5 x6 σ = some (r, τ)), x_W p l e rm_X9_bestRound s m args below meth c (MQ below (x_Q TM G (some (.int r)) τ) args s 0 0 (x_A TM G)) TM G 8 50 [(0, .ref (x_ad G 0)), (1, .int x1), (2, .int x2), (3, .int x3), (4, .int x4), (5, .int x5), (6, .int x6)] [] σ) (x1 : Int32) (x2 : Int32) (x3 : Int32) (x4 : Int32) (x5 : Int32) (x6 : Int32) (σ : x_Hp) (h : F_X9_bestRound_111 k41 k50 x1 x2 x3 x4 x5 x6 σ = some (r, τ)) : x_W p l e rm_X9_bestRound s m args below meth c (MQ below (x_Q TM G (some (.int r)) τ) args s 0 0 (x_A TM G)) TM G 8 111 [(0, .ref (x_ad G 0)), (1, .int x1), (2, .int x2), (3, .int x3), (4, .int x4), (5, .int x5), (6, .int x6)] [] σ := by
  have hG : x_OK TM G := C.2.2.2.2.2.2.2.2.1
  rw [F_X9_bestRound_111] at h
  refine x_iinc C 6 (x6 + (1 : Int32)) [(6, .int (x6 + (1 : Int32))), (0, .ref (x_ad G 0)), (1, .int x1), (2, .int x2), (3, .int x3), (4, .int x4), (5, .int x5)] dX9_bestRound_111 rfl rfl (by decide) rfl ?_
  refine x_goto C 50 dX9_bestRound_114 rfl ?_
  exact x_sub [1, 2, 3, 4, 5, 6, 0] rfl (hk50 x1 x2 x3 x4 x5 (x6 + (1 : Int32)) σ h)
set_option maxHeartbeats 4000000 in
set_option maxRecDepth 100000 in
theorem w_X9_bestRound_98 {r : Int32} {τ : x_Hp} (C : x_C p s m args meth c cX9_bestRound 8 (some .int) yX9_bestRound.cls TM G) {k41 : Int32 → Int32 → Int32 → Int32 → Int32 → x_Hp → Option (Int32 × x_Hp)} (hk41 : ∀ (x1 : Int32) (x2 : Int32) (x3 : Int32) (x4 : Int32) (x5 : Int32) (σ : x_Hp) (h : k41 x1 x2 x3 x4 x5 σ = some (r, τ)), x_W p l e rm_X9_bestRound s m args below meth c (MQ below (x_Q TM G (some (.int r)) τ) args s 0 0 (x_A TM G)) TM G 8 41 [(0, .ref (x_ad G 0)), (1, .int x1), (2, .int x2), (3, .int x3), (4, .int x4), (5, .int x5)] [] σ) {k50 : Int32 → Int32 → Int32 → Int32 → Int32 → Int32 → x_Hp → Option (Int32 × x_Hp)} (hk50 : ∀ (x1 : Int32) (x2 : Int32) (x3 : Int32) (x4 : Int32) (x5 : Int32) (x6 : Int32) (σ : x_Hp) (h : k50 x1 x2 x3 x4 x5 x6 σ = some (r, τ)), x_W p l e rm_X9_bestRound s m args below meth c (MQ below (x_Q TM G (some (.int r)) τ) args s 0 0 (x_A TM G)) TM G 8 50 [(0, .ref (x_ad G 0)), (1, .int x1), (2, .int x2), (3, .int x3), (4, .int x4), (5, .int x5), (6, .int x6)] [] σ) (x1 : Int32) (x2 : Int32) (x5 : Int32) (x6 : Int32) (x7 : Int32) (σ : x_Hp) (h : F_X9_bestRound_98 k41 k50 x1 x2 x5 x6 x7 σ = some (r, τ)) : x_W p l e rm_X9_bestRound s m args below meth c (MQ below (x_Q TM G (some (.int r)) τ) args s 0 0 (x_A TM G)) TM G 8 98 [(0, .ref (x_ad G 0)), (1, .int x1), (2, .int x2), (5, .int x5), (6, .int x6), (7, .int x7)] [] σ := by
  have hG : x_OK TM G := C.2.2.2.2.2.2.2.2.1
  rw [F_X9_bestRound_98] at h
  refine x_bipush C (100 : Int32) dX9_bestRound_98 (by decide) ?_
  refine x_iload C 3 dX9_bestRound_100 rfl ?_
  refine x_imul C dX9_bestRound_102 ?_
  refine x_iload C 4 dX9_bestRound_103 rfl ?_
  refine x_iadd C dX9_bestRound_105 ?_
  refine x_istore_n C [(3, .int (((100 : Int32) * x5) + x6)), (0, .ref (x_ad G 0)), (1, .int x1), (2, .int x2), (5, .int x5), (6, .int x6), (7, .int x7)] dX9_bestRound_106 rfl (by decide) rfl ?_
  refine x_iload C 6 dX9_bestRound_107 rfl ?_
  refine x_istore C [(4, .int x7), (3, .int (((100 : Int32) * x5) + x6)), (0, .ref (x_ad G 0)), (1, .int x1), (2, .int x2), (5, .int x5), (6, .int x6), (7, .int x7)] dX9_bestRound_109 (by decide) rfl ?_
  exact x_sub [2, 3, 4, 1, 0, 5, 6] rfl (w_X9_bestRound_111 C hk41 hk50 x1 x2 (((100 : Int32) * x5) + x6) x7 x5 x6 σ h)
set_option maxHeartbeats 4000000 in
set_option maxRecDepth 100000 in
theorem w_X9_bestRound_50 {r : Int32} {τ : x_Hp} (C : x_C p s m args meth c cX9_bestRound 8 (some .int) yX9_bestRound.cls TM G) {k41 : Int32 → Int32 → Int32 → Int32 → Int32 → x_Hp → Option (Int32 × x_Hp)} (hk41 : ∀ (x1 : Int32) (x2 : Int32) (x3 : Int32) (x4 : Int32) (x5 : Int32) (σ : x_Hp) (h : k41 x1 x2 x3 x4 x5 σ = some (r, τ)), x_W p l e rm_X9_bestRound s m args below meth c (MQ below (x_Q TM G (some (.int r)) τ) args s 0 0 (x_A TM G)) TM G 8 41 [(0, .ref (x_ad G 0)), (1, .int x1), (2, .int x2), (3, .int x3), (4, .int x4), (5, .int x5)] [] σ) : ∀ (n : Nat) (x1 : Int32) (x2 : Int32) (x3 : Int32) (x4 : Int32) (x5 : Int32) (x6 : Int32) (σ : x_Hp) (h : F_X9_bestRound_50 k41 n x1 x2 x3 x4 x5 x6 σ = some (r, τ)), x_W p l e rm_X9_bestRound s m args below meth c (MQ below (x_Q TM G (some (.int r)) τ) args s 0 0 (x_A TM G)) TM G 8 50 [(0, .ref (x_ad G 0)), (1, .int x1), (2, .int x2), (3, .int x3), (4, .int x4), (5, .int x5), (6, .int x6)] [] σ := by
  intro n
  induction n with
  | zero => intro x1 x2 x3 x4 x5 x6 σ  h; cases h
  | succ n ih =>
    intro x1 x2 x3 x4 x5 x6 σ  h
    have hG : x_OK TM G := C.2.2.2.2.2.2.2.2.1
    rw [F_X9_bestRound_50] at h
    refine x_iload C 6 dX9_bestRound_50 rfl ?_
    refine x_bipush C (20 : Int32) dX9_bestRound_52 (by decide) ?_
    refine x_icmp_gt C 117 dX9_bestRound_54 rfl (fun hc => ?_) (fun hc => ?_)
    · replace h := x_itp hc h
      refine x_iinc C 5 (x5 + (1 : Int32)) [(5, .int (x5 + (1 : Int32))), (0, .ref (x_ad G 0)), (1, .int x1), (2, .int x2), (3, .int x3), (4, .int x4), (6, .int x6)] dX9_bestRound_117 rfl rfl (by decide) rfl ?_
      refine x_goto C 41 dX9_bestRound_120 rfl ?_
      exact x_sub [1, 2, 3, 4, 5, 0] rfl (hk41 x1 x2 x3 x4 (x5 + (1 : Int32)) σ h)
    · replace h := x_itn hc h
      refine x_aload_n C 0 dX9_bestRound_57 rfl rfl ?_
      refine x_iload C 5 dX9_bestRound_58 rfl ?_
      refine x_iload C 6 dX9_bestRound_60 rfl ?_
      refine x_iload_n C 1 dX9_bestRound_62 rfl rfl ?_
      obtain ⟨v4, σ4, hc4, h⟩ := x_b_some h
      refine x_callV C (n := 3) (c_X9_rounds hG hc4) kM_0 (by decide) rfl wd_1741 wd_1743 wd_96 wd_111 wd_1744 (by decide +kernel) rfl ⟨Nat.le_of_ble_eq_true rfl, Nat.le_of_ble_eq_true rfl⟩ ⟨rfl, rfl⟩ rfl (Nat.le_of_ble_eq_true rfl) dX9_bestRound_63 ?_
      refine x_aload_n C 0 dX9_bestRound_66 rfl rfl ?_
      refine x_getRq C (k := 49) kM_0 (by decide) rfl x_in9 (by decide) (by decide) rfl rfl wd_1257 rfM_0_49 dX9_bestRound_67 ?_
      refine x_bipush C (13 : Int32) dX9_bestRound_70 (by decide) ?_
      refine x_ialdJ C kM_32 (x_inl lnM_32 (by decide)) (j := 13) (by decide) dX9_bestRound_72 ?_
      refine x_aload_n C 0 dX9_bestRound_73 rfl rfl ?_
      refine x_getRq C (k := 48) kM_0 (by decide) rfl x_in9 (by decide) (by decide) rfl rfl wd_1256 rfM_0_48 dX9_bestRound_74 ?_
      refine x_bipush C (13 : Int32) dX9_bestRound_77 (by decide) ?_
      refine x_ialdJ C kM_31 (x_inl lnM_31 (by decide)) (j := 13) (by decide) dX9_bestRound_79 ?_
      refine x_isub C dX9_bestRound_80 ?_
      refine x_istore C [(7, .int ((σ4.1 32 13) - (σ4.1 31 13))), (0, .ref (x_ad G 0)), (1, .int x1), (2, .int x2), (3, .int x3), (4, .int x4), (5, .int x5), (6, .int x6)] dX9_bestRound_81 (by decide) rfl ?_
      refine x_iload C 5 dX9_bestRound_83 rfl ?_
      refine x_if_lt C 98 dX9_bestRound_85 rfl (fun hc => ?_) (fun hc => ?_)
      · replace h := x_itp hc h
        exact x_sub [1, 2, 3, 6, 7, 0] rfl (w_X9_bestRound_98 C hk41 ih x1 x2 x5 x6 ((σ4.1 32 13) - (σ4.1 31 13)) σ4 h)
      · replace h := x_itn hc h
        refine x_iload C 0 dX9_bestRound_88 rfl ?_
        refine x_iload C 5 dX9_bestRound_90 rfl ?_
        refine x_icmp_lt C 98 dX9_bestRound_92 rfl (fun hc => ?_) (fun hc => ?_)
        · replace h := x_itp hc h
          exact x_sub [1, 2, 3, 6, 7, 0] rfl (w_X9_bestRound_98 C hk41 ih x1 x2 x5 x6 ((σ4.1 32 13) - (σ4.1 31 13)) σ4 h)
        · replace h := x_itn hc h
          refine x_goto C 111 dX9_bestRound_95 rfl ?_
          exact x_sub [1, 2, 3, 4, 5, 6, 7] rfl (w_X9_bestRound_111 C hk41 ih x1 x2 x3 x4 x5 x6 σ4 h)
set_option maxHeartbeats 4000000 in
set_option maxRecDepth 100000 in
theorem w_X9_bestRound_41 {r : Int32} {τ : x_Hp} (C : x_C p s m args meth c cX9_bestRound 8 (some .int) yX9_bestRound.cls TM G) : ∀ (n : Nat) (x1 : Int32) (x2 : Int32) (x3 : Int32) (x4 : Int32) (x5 : Int32) (σ : x_Hp) (h : F_X9_bestRound_41 n x1 x2 x3 x4 x5 σ = some (r, τ)), x_W p l e rm_X9_bestRound s m args below meth c (MQ below (x_Q TM G (some (.int r)) τ) args s 0 0 (x_A TM G)) TM G 8 41 [(0, .ref (x_ad G 0)), (1, .int x1), (2, .int x2), (3, .int x3), (4, .int x4), (5, .int x5)] [] σ := by
  intro n
  induction n with
  | zero => intro x1 x2 x3 x4 x5 σ  h; cases h
  | succ n ih =>
    intro x1 x2 x3 x4 x5 σ  h
    have hG : x_OK TM G := C.2.2.2.2.2.2.2.2.1
    rw [F_X9_bestRound_41] at h
    refine x_iload C 5 dX9_bestRound_41 rfl ?_
    refine x_iconst C (4 : Int32) dX9_bestRound_43 (by decide) ?_
    refine x_icmp_ge C 123 dX9_bestRound_44 rfl (fun hc => ?_) (fun hc => ?_)
    · replace h := x_itp hc h
      refine x_iload_n C 2 dX9_bestRound_123 rfl rfl ?_
      refine x_if_ne C 131 dX9_bestRound_124 rfl (fun hc => ?_) (fun hc => ?_)
      · replace h := x_itn hc h
        refine x_iload C 4 dX9_bestRound_131 rfl ?_
        obtain ⟨rfl, rfl⟩ := x_ret h
        exact x_iret C dX9_bestRound_133
      · replace h := x_itp hc h
        refine x_iload_n C 3 dX9_bestRound_127 rfl rfl ?_
        refine x_goto C 133 dX9_bestRound_128 rfl ?_
        obtain ⟨rfl, rfl⟩ := x_ret h
        exact x_iret C dX9_bestRound_133
    · replace h := x_itn hc h
      refine x_iconst C (1 : Int32) dX9_bestRound_47 (by decide) ?_
      refine x_istore C [(6, .int (1 : Int32)), (0, .ref (x_ad G 0)), (1, .int x1), (2, .int x2), (3, .int x3), (4, .int x4), (5, .int x5)] dX9_bestRound_48 (by decide) rfl ?_
      exact x_sub [1, 2, 3, 4, 5, 6, 0] rfl (w_X9_bestRound_50 C ih x_fuel x1 x2 x3 x4 x5 (1 : Int32) σ h)
set_option maxHeartbeats 4000000 in
set_option maxRecDepth 100000 in
theorem c_X9_bestRound (hG : x_OK TM G) {x1 : Int32} {x2 : Int32} {σ τ : x_Hp} {r : Int32} (h : F_X9_bestRound x1 x2 σ = some (r, τ)) : x_M l TM G yX9_bestRound cX9_bestRound 8 (some .int) rm_X9_bestRound [.ref (x_ad G 0), .int x1, .int x2] σ (some (.int r)) τ := by
  refine x_M.of hG (lv := [(0, .ref (x_ad G 0)), (1, .int x1), (2, .int x2)]) (by decide) (Nat.le_of_ble_eq_true rfl) rfl (fun p e s m below meth c C => ?_)
  rw [F_X9_bestRound] at h
  refine x_aload_n C 0 dX9_bestRound_0 rfl rfl ?_
  refine x_getRq C (k := 23) kM_0 (by decide) rfl x_in9 (by decide) (by decide) rfl rfl wd_1231 rfM_0_23 dX9_bestRound_1 ?_
  refine x_aload_n C 0 dX9_bestRound_4 rfl rfl ?_
  refine x_getI C (k := 18) kM_0 (by decide) rfl x_in9 (by decide) (by decide) rfl rfl wd_1226 dX9_bestRound_5 ?_
  obtain ⟨hi1, h⟩ := x_gd_some h
  refine x_iald C kM_10 (x_inl lnM_10 hi1) dX9_bestRound_8 ?_
  refine x_if_eq C 31 dX9_bestRound_9 rfl (fun hc => ?_) (fun hc => ?_)
  · replace h := x_itp hc h
    refine x_iconst C (-1 : Int32) dX9_bestRound_31 (by decide) ?_
    obtain ⟨rfl, rfl⟩ := x_ret h
    exact x_iret C dX9_bestRound_32
  · replace h := x_itn hc h
    refine x_iload_n C 1 dX9_bestRound_12 rfl rfl ?_
    refine x_iconst C (1 : Int32) dX9_bestRound_13 (by decide) ?_
    refine x_bipush C (120 : Int32) dX9_bestRound_14 (by decide) ?_
    obtain ⟨v2, σ2, hc2, h⟩ := x_b_some h
    refine x_callS C (n := 3) (c_X9_in hG hc2) wd_1531 wd_1532 wd_111 wd_1533 (by decide +kernel) rfl ⟨Nat.le_of_ble_eq_true rfl, Nat.le_of_ble_eq_true rfl⟩ ⟨rfl, rfl⟩ rfl (Nat.le_of_ble_eq_true rfl) dX9_bestRound_16 ?_
    refine x_if_eq C 31 dX9_bestRound_19 rfl (fun hc => ?_) (fun hc => ?_)
    · replace h := x_itp hc h
      refine x_iconst C (-1 : Int32) dX9_bestRound_31 (by decide) ?_
      obtain ⟨rfl, rfl⟩ := x_ret h
      exact x_iret C dX9_bestRound_32
    · replace h := x_itn hc h
      refine x_iload_n C 2 dX9_bestRound_22 rfl rfl ?_
      refine x_iconst C (0 : Int32) dX9_bestRound_23 (by decide) ?_
      refine x_iconst C (1 : Int32) dX9_bestRound_24 (by decide) ?_
      obtain ⟨v3, σ3, hc3, h⟩ := x_b_some h
      refine x_callS C (n := 3) (c_X9_in hG hc3) wd_1531 wd_1532 wd_111 wd_1533 (by decide +kernel) rfl ⟨Nat.le_of_ble_eq_true rfl, Nat.le_of_ble_eq_true rfl⟩ ⟨rfl, rfl⟩ rfl (Nat.le_of_ble_eq_true rfl) dX9_bestRound_25 ?_
      refine x_if_ne C 33 dX9_bestRound_28 rfl (fun hc => ?_) (fun hc => ?_)
      · replace h := x_itn hc h
        refine x_iconst C (0 : Int32) dX9_bestRound_33 (by decide) ?_
        refine x_istore_n C [(3, .int (0 : Int32)), (0, .ref (x_ad G 0)), (1, .int x1), (2, .int x2)] dX9_bestRound_34 rfl (by decide) rfl ?_
        refine x_iconst C (-1 : Int32) dX9_bestRound_35 (by decide) ?_
        refine x_istore C [(4, .int (-1 : Int32)), (3, .int (0 : Int32)), (0, .ref (x_ad G 0)), (1, .int x1), (2, .int x2)] dX9_bestRound_36 (by decide) rfl ?_
        refine x_iconst C (0 : Int32) dX9_bestRound_38 (by decide) ?_
        refine x_istore C [(5, .int (0 : Int32)), (4, .int (-1 : Int32)), (3, .int (0 : Int32)), (0, .ref (x_ad G 0)), (1, .int x1), (2, .int x2)] dX9_bestRound_39 (by decide) rfl ?_
        exact x_sub [3, 4, 5, 2, 1, 0] rfl (w_X9_bestRound_41 C x_fuel x1 x2 (0 : Int32) (-1 : Int32) (0 : Int32) σ3 h)
      · replace h := x_itp hc h
        refine x_iconst C (-1 : Int32) dX9_bestRound_31 (by decide) ?_
        obtain ⟨rfl, rfl⟩ := x_ret h
        exact x_iret C dX9_bestRound_32
abbrev rm_X9_feedAt : Room := { frames := 7, cells := 0, slots := 0, locals := 163 }
set_option maxHeartbeats 4000000 in
set_option maxRecDepth 100000 in
theorem w_X9_feedAt_109 {r : Int32} {τ : x_Hp} (C : x_C p s m args meth c cX9_feedAt 7 (some .int) yX9_feedAt.cls TM G) {k39 : Int32 → Int32 → Int32 → Int32 → Int32 → x_Hp → Option (Int32 × x_Hp)} (hk39 : ∀ (x1 : Int32) (x2 : Int32) (x3 : Int32) (x4 : Int32) (x5 : Int32) (σ : x_Hp) (h : k39 x1 x2 x3 x4 x5 σ = some (r, τ)), x_W p l e rm_X9_feedAt s m args below meth c (MQ below (x_Q TM G (some (.int r)) τ) args s 0 0 (x_A TM G)) TM G 7 39 [(0, .ref (x_ad G 0)), (1, .int x1), (2, .int x2), (3, .int x3), (4, .int x4), (5, .int x5)] [] σ) (x1 : Int32) (x2 : Int32) (x3 : Int32) (x4 : Int32) (x5 : Int32) (σ : x_Hp) (h : F_X9_feedAt_109 k39 x1 x2 x3 x4 x5 σ = some (r, τ)) : x_W p l e rm_X9_feedAt s m args below meth c (MQ below (x_Q TM G (some (.int r)) τ) args s 0 0 (x_A TM G)) TM G 7 109 [(0, .ref (x_ad G 0)), (1, .int x1), (2, .int x2), (3, .int x3), (4, .int x4), (5, .int x5)] [] σ := by
  have hG : x_OK TM G := C.2.2.2.2.2.2.2.2.1
  rw [F_X9_feedAt_109] at h
  refine x_iinc C 5 (x5 + (1 : Int32)) [(5, .int (x5 + (1 : Int32))), (0, .ref (x_ad G 0)), (1, .int x1), (2, .int x2), (3, .int x3), (4, .int x4)] dX9_feedAt_109 rfl rfl (by decide) rfl ?_
  refine x_goto C 39 dX9_feedAt_112 rfl ?_
  exact x_sub [1, 2, 3, 4, 5, 0] rfl (hk39 x1 x2 x3 x4 (x5 + (1 : Int32)) σ h)
set_option maxHeartbeats 4000000 in
set_option maxRecDepth 100000 in
theorem w_X9_feedAt_102 {r : Int32} {τ : x_Hp} (C : x_C p s m args meth c cX9_feedAt 7 (some .int) yX9_feedAt.cls TM G) {k39 : Int32 → Int32 → Int32 → Int32 → Int32 → x_Hp → Option (Int32 × x_Hp)} (hk39 : ∀ (x1 : Int32) (x2 : Int32) (x3 : Int32) (x4 : Int32) (x5 : Int32) (σ : x_Hp) (h : k39 x1 x2 x3 x4 x5 σ = some (r, τ)), x_W p l e rm_X9_feedAt s m args below meth c (MQ below (x_Q TM G (some (.int r)) τ) args s 0 0 (x_A TM G)) TM G 7 39 [(0, .ref (x_ad G 0)), (1, .int x1), (2, .int x2), (3, .int x3), (4, .int x4), (5, .int x5)] [] σ) (x1 : Int32) (x2 : Int32) (x5 : Int32) (x6 : Int32) (σ : x_Hp) (h : F_X9_feedAt_102 k39 x1 x2 x5 x6 σ = some (r, τ)) : x_W p l e rm_X9_feedAt s m args below meth c (MQ below (x_Q TM G (some (.int r)) τ) args s 0 0 (x_A TM G)) TM G 7 102 [(0, .ref (x_ad G 0)), (1, .int x1), (2, .int x2), (5, .int x5), (6, .int x6)] [] σ := by
  have hG : x_OK TM G := C.2.2.2.2.2.2.2.2.1
  rw [F_X9_feedAt_102] at h
  refine x_iload C 3 dX9_feedAt_102 rfl ?_
  refine x_istore_n C [(3, .int x5), (0, .ref (x_ad G 0)), (1, .int x1), (2, .int x2), (5, .int x5), (6, .int x6)] dX9_feedAt_104 rfl (by decide) rfl ?_
  refine x_iload C 5 dX9_feedAt_105 rfl ?_
  refine x_istore C [(4, .int x6), (3, .int x5), (0, .ref (x_ad G 0)), (1, .int x1), (2, .int x2), (5, .int x5), (6, .int x6)] dX9_feedAt_107 (by decide) rfl ?_
  exact x_sub [2, 3, 4, 1, 0, 5] rfl (w_X9_feedAt_109 C hk39 x1 x2 x5 x6 x5 σ h)
set_option maxHeartbeats 4000000 in
set_option maxRecDepth 100000 in
theorem w_X9_feedAt_39 {r : Int32} {τ : x_Hp} (C : x_C p s m args meth c cX9_feedAt 7 (some .int) yX9_feedAt.cls TM G) : ∀ (n : Nat) (x1 : Int32) (x2 : Int32) (x3 : Int32) (x4 : Int32) (x5 : Int32) (σ : x_Hp) (h : F_X9_feedAt_39 n x1 x2 x3 x4 x5 σ = some (r, τ)), x_W p l e rm_X9_feedAt s m args below meth c (MQ below (x_Q TM G (some (.int r)) τ) args s 0 0 (x_A TM G)) TM G 7 39 [(0, .ref (x_ad G 0)), (1, .int x1), (2, .int x2), (3, .int x3), (4, .int x4), (5, .int x5)] [] σ := by
  intro n
  induction n with
  | zero => intro x1 x2 x3 x4 x5 σ  h; cases h
  | succ n ih =>
    intro x1 x2 x3 x4 x5 σ  h
    have hG : x_OK TM G := C.2.2.2.2.2.2.2.2.1
    rw [F_X9_feedAt_39] at h
    refine x_iload C 5 dX9_feedAt_39 rfl ?_
    refine x_iload_n C 1 dX9_feedAt_41 rfl rfl ?_
    refine x_icmp_ge C 115 dX9_feedAt_42 rfl (fun hc => ?_) (fun hc => ?_)
    · replace h := x_itp hc h
      refine x_iload_n C 2 dX9_feedAt_115 rfl rfl ?_
      refine x_if_ne C 123 dX9_feedAt_116 rfl (fun hc => ?_) (fun hc => ?_)
      · replace h := x_itn hc h
        refine x_iload C 4 dX9_feedAt_123 rfl ?_
        obtain ⟨rfl, rfl⟩ := x_ret h
        exact x_iret C dX9_feedAt_125
      · replace h := x_itp hc h
        refine x_iload_n C 3 dX9_feedAt_119 rfl rfl ?_
        refine x_goto C 125 dX9_feedAt_120 rfl ?_
        obtain ⟨rfl, rfl⟩ := x_ret h
        exact x_iret C dX9_feedAt_125
    · replace h := x_itn hc h
      refine x_aload_n C 0 dX9_feedAt_45 rfl rfl ?_
      obtain ⟨v4, σ4, hc4, h⟩ := x_b_some h
      refine x_callV C (n := 0) (c_X9_copies hG hc4) kM_0 (by decide) rfl wd_1546 wd_1548 wd_70 wd_111 wd_1549 (by decide +kernel) rfl ⟨Nat.le_of_ble_eq_true rfl, Nat.le_of_ble_eq_true rfl⟩ ⟨rfl, rfl⟩ rfl (Nat.le_of_ble_eq_true rfl) dX9_feedAt_46 ?_
      refine x_aload_n C 0 dX9_feedAt_49 rfl rfl ?_
      refine x_iload C 5 dX9_feedAt_50 rfl ?_
      obtain ⟨v5, σ5, hc5, h⟩ := x_b_some h
      refine x_callV C (n := 1) (c_X9_cries hG hc5) kM_0 (by decide) rfl wd_1645 wd_1647 wd_85 wd_111 wd_1648 (by decide +kernel) rfl ⟨Nat.le_of_ble_eq_true rfl, Nat.le_of_ble_eq_true rfl⟩ ⟨rfl, rfl⟩ rfl (Nat.le_of_ble_eq_true rfl) dX9_feedAt_52 ?_
      refine x_istore C [(6, .int v5), (0, .ref (x_ad G 0)), (1, .int x1), (2, .int x2), (3, .int x3), (4, .int x4), (5, .int x5)] dX9_feedAt_55 (by decide) rfl ?_
      refine x_aload_n C 1 dX9_feedAt_57 rfl rfl ?_
      refine x_getRq C (k := 49) kM_0 (by decide) rfl x_in9 (by decide) (by decide) rfl rfl wd_1257 rfM_0_49 dX9_feedAt_58 ?_
      refine x_bipush C (7 : Int32) dX9_feedAt_61 (by decide) ?_
      refine x_ialdJ C kM_32 (x_inl lnM_32 (by decide)) (j := 7) (by decide) dX9_feedAt_63 ?_
      refine x_if_le C 70 dX9_feedAt_64 rfl (fun hc => ?_) (fun hc => ?_)
      · replace h := x_itp hc h
        refine x_aload_n C 1 dX9_feedAt_70 rfl rfl ?_
        obtain ⟨v6, σ6, hc6, h⟩ := x_b_some h
        refine x_callV C (n := 0) (c_X9_feedsNow hG hc6) kM_0 (by decide) rfl wd_1617 wd_1619 wd_83 wd_111 wd_1620 (by decide +kernel) rfl ⟨Nat.le_of_ble_eq_true rfl, Nat.le_of_ble_eq_true rfl⟩ ⟨rfl, rfl⟩ rfl (Nat.le_of_ble_eq_true rfl) dX9_feedAt_71 ?_
        refine x_iload C 0 dX9_feedAt_74 rfl ?_
        refine x_aload_n C 1 dX9_feedAt_76 rfl rfl ?_
        refine x_iload_n C 2 dX9_feedAt_77 rfl rfl ?_
        refine x_iload C 6 dX9_feedAt_78 rfl ?_
        refine x_isub C dX9_feedAt_80 ?_
        obtain ⟨v7, σ7, hc7, h⟩ := x_b_some h
        refine x_callV C (n := 1) (c_X9_cries hG hc7) kM_0 (by decide) rfl wd_1645 wd_1647 wd_85 wd_111 wd_1648 (by decide +kernel) rfl ⟨Nat.le_of_ble_eq_true rfl, Nat.le_of_ble_eq_true rfl⟩ ⟨rfl, rfl⟩ rfl (Nat.le_of_ble_eq_true rfl) dX9_feedAt_81 ?_
        refine x_iadd C dX9_feedAt_84 ?_
        refine x_istore C [(6, .int (v5 + v7)), (0, .ref (x_ad G 0)), (1, .int x1), (2, .int x2), (3, .int x3), (4, .int x4), (5, .int x5)] dX9_feedAt_85 (by decide) rfl ?_
        refine x_iload C 5 dX9_feedAt_87 rfl ?_
        refine x_if_lt C 102 dX9_feedAt_89 rfl (fun hc => ?_) (fun hc => ?_)
        · replace h := x_itp hc h
          exact x_sub [1, 2, 3, 6, 0] rfl (w_X9_feedAt_102 C ih x1 x2 x5 (v5 + v7) σ7 h)
        · replace h := x_itn hc h
          refine x_iload C 0 dX9_feedAt_92 rfl ?_
          refine x_iload C 5 dX9_feedAt_94 rfl ?_
          refine x_icmp_lt C 102 dX9_feedAt_96 rfl (fun hc => ?_) (fun hc => ?_)
          · replace h := x_itp hc h
            exact x_sub [1, 2, 3, 6, 0] rfl (w_X9_feedAt_102 C ih x1 x2 x5 (v5 + v7) σ7 h)
          · replace h := x_itn hc h
            refine x_goto C 109 dX9_feedAt_99 rfl ?_
            exact x_sub [1, 2, 3, 4, 5, 6] rfl (w_X9_feedAt_109 C ih x1 x2 x3 x4 x5 σ7 h)
      · replace h := x_itn hc h
        refine x_goto C 109 dX9_feedAt_67 rfl ?_
        exact x_sub [1, 2, 3, 4, 5, 6] rfl (w_X9_feedAt_109 C ih x1 x2 x3 x4 x5 σ5 h)
set_option maxHeartbeats 4000000 in
set_option maxRecDepth 100000 in
theorem c_X9_feedAt (hG : x_OK TM G) {x1 : Int32} {x2 : Int32} {σ τ : x_Hp} {r : Int32} (h : F_X9_feedAt x1 x2 σ = some (r, τ)) : x_M l TM G yX9_feedAt cX9_feedAt 7 (some .int) rm_X9_feedAt [.ref (x_ad G 0), .int x1, .int x2] σ (some (.int r)) τ := by
  refine x_M.of hG (lv := [(0, .ref (x_ad G 0)), (1, .int x1), (2, .int x2)]) (by decide) (Nat.le_of_ble_eq_true rfl) rfl (fun p e s m below meth c C => ?_)
  rw [F_X9_feedAt] at h
  refine x_iload_n C 1 dX9_feedAt_0 rfl rfl ?_
  refine x_iconst C (1 : Int32) dX9_feedAt_1 (by decide) ?_
  refine x_bipush C (60 : Int32) dX9_feedAt_2 (by decide) ?_
  obtain ⟨v1, σ1, hc1, h⟩ := x_b_some h
  refine x_callS C (n := 3) (c_X9_in hG hc1) wd_1531 wd_1532 wd_111 wd_1533 (by decide +kernel) rfl ⟨Nat.le_of_ble_eq_true rfl, Nat.le_of_ble_eq_true rfl⟩ ⟨rfl, rfl⟩ rfl (Nat.le_of_ble_eq_true rfl) dX9_feedAt_4 ?_
  refine x_if_eq C 19 dX9_feedAt_7 rfl (fun hc => ?_) (fun hc => ?_)
  · replace h := x_itp hc h
    refine x_iconst C (-1 : Int32) dX9_feedAt_19 (by decide) ?_
    obtain ⟨rfl, rfl⟩ := x_ret h
    exact x_iret C dX9_feedAt_20
  · replace h := x_itn hc h
    refine x_iload_n C 2 dX9_feedAt_10 rfl rfl ?_
    refine x_iconst C (0 : Int32) dX9_feedAt_11 (by decide) ?_
    refine x_iconst C (1 : Int32) dX9_feedAt_12 (by decide) ?_
    obtain ⟨v2, σ2, hc2, h⟩ := x_b_some h
    refine x_callS C (n := 3) (c_X9_in hG hc2) wd_1531 wd_1532 wd_111 wd_1533 (by decide +kernel) rfl ⟨Nat.le_of_ble_eq_true rfl, Nat.le_of_ble_eq_true rfl⟩ ⟨rfl, rfl⟩ rfl (Nat.le_of_ble_eq_true rfl) dX9_feedAt_13 ?_
    refine x_if_ne C 21 dX9_feedAt_16 rfl (fun hc => ?_) (fun hc => ?_)
    · replace h := x_itn hc h
      refine x_aload_n C 0 dX9_feedAt_21 rfl rfl ?_
      obtain ⟨v3, σ3, hc3, h⟩ := x_b_some h
      refine x_callV C (n := 0) (c_X9_isAwake hG hc3) kM_0 (by decide) rfl wd_1605 wd_1607 wd_81 wd_111 wd_1608 (by decide +kernel) rfl ⟨Nat.le_of_ble_eq_true rfl, Nat.le_of_ble_eq_true rfl⟩ ⟨rfl, rfl⟩ rfl (Nat.le_of_ble_eq_true rfl) dX9_feedAt_22 ?_
      refine x_if_ne C 31 dX9_feedAt_25 rfl (fun hc => ?_) (fun hc => ?_)
      · replace h := x_itn hc h
        refine x_iconst C (0 : Int32) dX9_feedAt_31 (by decide) ?_
        refine x_istore_n C [(3, .int (0 : Int32)), (0, .ref (x_ad G 0)), (1, .int x1), (2, .int x2)] dX9_feedAt_32 rfl (by decide) rfl ?_
        refine x_iconst C (-1 : Int32) dX9_feedAt_33 (by decide) ?_
        refine x_istore C [(4, .int (-1 : Int32)), (3, .int (0 : Int32)), (0, .ref (x_ad G 0)), (1, .int x1), (2, .int x2)] dX9_feedAt_34 (by decide) rfl ?_
        refine x_iconst C (0 : Int32) dX9_feedAt_36 (by decide) ?_
        refine x_istore C [(5, .int (0 : Int32)), (4, .int (-1 : Int32)), (3, .int (0 : Int32)), (0, .ref (x_ad G 0)), (1, .int x1), (2, .int x2)] dX9_feedAt_37 (by decide) rfl ?_
        exact x_sub [3, 4, 5, 2, 1, 0] rfl (w_X9_feedAt_39 C x_fuel x1 x2 (0 : Int32) (-1 : Int32) (0 : Int32) σ3 h)
      · replace h := x_itp hc h
        refine x_bipush C (-2 : Int32) dX9_feedAt_28 (by decide) ?_
        obtain ⟨rfl, rfl⟩ := x_ret h
        exact x_iret C dX9_feedAt_30
    · replace h := x_itp hc h
      refine x_iconst C (-1 : Int32) dX9_feedAt_19 (by decide) ?_
      obtain ⟨rfl, rfl⟩ := x_ret h
      exact x_iret C dX9_feedAt_20
abbrev rm_X9_peak : Room := { frames := 7, cells := 0, slots := 0, locals := 163 }
set_option maxHeartbeats 4000000 in
set_option maxRecDepth 100000 in
theorem w_X9_peak_64 {r : Int32} {τ : x_Hp} (C : x_C p s m args meth c cX9_peak 7 (some .int) yX9_peak.cls TM G) {k34 : Int32 → Int32 → Int32 → Int32 → Int32 → x_Hp → Option (Int32 × x_Hp)} (hk34 : ∀ (x1 : Int32) (x2 : Int32) (x3 : Int32) (x4 : Int32) (x5 : Int32) (σ : x_Hp) (h : k34 x1 x2 x3 x4 x5 σ = some (r, τ)), x_W p l e rm_X9_peak s m args below meth c (MQ below (x_Q TM G (some (.int r)) τ) args s 0 0 (x_A TM G)) TM G 7 34 [(0, .ref (x_ad G 0)), (1, .int x1), (2, .int x2), (3, .int x3), (4, .int x4), (5, .int x5)] [] σ) (x1 : Int32) (x2 : Int32) (x3 : Int32) (x4 : Int32) (x5 : Int32) (σ : x_Hp) (h : F_X9_peak_64 k34 x1 x2 x3 x4 x5 σ = some (r, τ)) : x_W p l e rm_X9_peak s m args below meth c (MQ below (x_Q TM G (some (.int r)) τ) args s 0 0 (x_A TM G)) TM G 7 64 [(0, .ref (x_ad G 0)), (1, .int x1), (2, .int x2), (3, .int x3), (4, .int x4), (5, .int x5)] [] σ := by
  have hG : x_OK TM G := C.2.2.2.2.2.2.2.2.1
  rw [F_X9_peak_64] at h
  refine x_iinc C 5 (x5 + (1 : Int32)) [(5, .int (x5 + (1 : Int32))), (0, .ref (x_ad G 0)), (1, .int x1), (2, .int x2), (3, .int x3), (4, .int x4)] dX9_peak_64 rfl rfl (by decide) rfl ?_
  refine x_goto C 34 dX9_peak_67 rfl ?_
  exact x_sub [1, 2, 3, 4, 5, 0] rfl (hk34 x1 x2 x3 x4 (x5 + (1 : Int32)) σ h)
set_option maxHeartbeats 4000000 in
set_option maxRecDepth 100000 in
theorem w_X9_peak_34 {r : Int32} {τ : x_Hp} (C : x_C p s m args meth c cX9_peak 7 (some .int) yX9_peak.cls TM G) : ∀ (n : Nat) (x1 : Int32) (x2 : Int32) (x3 : Int32) (x4 : Int32) (x5 : Int32) (σ : x_Hp) (h : F_X9_peak_34 n x1 x2 x3 x4 x5 σ = some (r, τ)), x_W p l e rm_X9_peak s m args below meth c (MQ below (x_Q TM G (some (.int r)) τ) args s 0 0 (x_A TM G)) TM G 7 34 [(0, .ref (x_ad G 0)), (1, .int x1), (2, .int x2), (3, .int x3), (4, .int x4), (5, .int x5)] [] σ := by
  intro n
  induction n with
  | zero => intro x1 x2 x3 x4 x5 σ  h; cases h
  | succ n ih =>
    intro x1 x2 x3 x4 x5 σ  h
    have hG : x_OK TM G := C.2.2.2.2.2.2.2.2.1
    rw [F_X9_peak_34] at h
    refine x_iload C 5 dX9_peak_34 rfl ?_
    refine x_iload_n C 1 dX9_peak_36 rfl rfl ?_
    refine x_icmp_ge C 70 dX9_peak_37 rfl (fun hc => ?_) (fun hc => ?_)
    · replace h := x_itp hc h
      refine x_iload_n C 2 dX9_peak_70 rfl rfl ?_
      refine x_if_ne C 79 dX9_peak_71 rfl (fun hc => ?_) (fun hc => ?_)
      · replace h := x_itn hc h
        refine x_iload_n C 3 dX9_peak_79 rfl rfl ?_
        obtain ⟨rfl, rfl⟩ := x_ret h
        exact x_iret C dX9_peak_80
      · replace h := x_itp hc h
        refine x_iload C 4 dX9_peak_74 rfl ?_
        refine x_goto C 80 dX9_peak_76 rfl ?_
        obtain ⟨rfl, rfl⟩ := x_ret h
        exact x_iret C dX9_peak_80
    · replace h := x_itn hc h
      refine x_aload_n C 0 dX9_peak_40 rfl rfl ?_
      refine x_iconst C (1 : Int32) dX9_peak_41 (by decide) ?_
      obtain ⟨v4, σ4, hc4, h⟩ := x_b_some h
      refine x_callV C (n := 1) (c_X9_cries hG hc4) kM_0 (by decide) rfl wd_1645 wd_1647 wd_85 wd_111 wd_1648 (by decide +kernel) rfl ⟨Nat.le_of_ble_eq_true rfl, Nat.le_of_ble_eq_true rfl⟩ ⟨rfl, rfl⟩ rfl (Nat.le_of_ble_eq_true rfl) dX9_peak_42 ?_
      refine x_istore C [(6, .int v4), (0, .ref (x_ad G 0)), (1, .int x1), (2, .int x2), (3, .int x3), (4, .int x4), (5, .int x5)] dX9_peak_45 (by decide) rfl ?_
      refine x_iload C 0 dX9_peak_47 rfl ?_
      refine x_iload C 5 dX9_peak_49 rfl ?_
      refine x_icmp_gt C 57 dX9_peak_51 rfl (fun hc => ?_) (fun hc => ?_)
      · replace h := x_itp hc h
        refine x_iload C 6 dX9_peak_57 rfl ?_
        refine x_istore_n C [(3, .int x5), (6, .int v4), (0, .ref (x_ad G 0)), (1, .int x1), (2, .int x2), (4, .int x4), (5, .int x5)] dX9_peak_59 rfl (by decide) rfl ?_
        refine x_iload C 1 dX9_peak_60 rfl ?_
        refine x_istore C [(4, .int v4), (3, .int x5), (6, .int v4), (0, .ref (x_ad G 0)), (1, .int x1), (2, .int x2), (5, .int x5)] dX9_peak_62 (by decide) rfl ?_
        exact x_sub [3, 4, 5, 1, 0, 6] rfl (w_X9_peak_64 C ih x1 x2 x5 v4 x5 σ4 h)
      · replace h := x_itn hc h
        refine x_goto C 64 dX9_peak_54 rfl ?_
        exact x_sub [1, 2, 3, 4, 5, 6] rfl (w_X9_peak_64 C ih x1 x2 x3 x4 x5 σ4 h)
set_option maxHeartbeats 4000000 in
set_option maxRecDepth 100000 in
theorem c_X9_peak (hG : x_OK TM G) {x1 : Int32} {x2 : Int32} {σ τ : x_Hp} {r : Int32} (h : F_X9_peak x1 x2 σ = some (r, τ)) : x_M l TM G yX9_peak cX9_peak 7 (some .int) rm_X9_peak [.ref (x_ad G 0), .int x1, .int x2] σ (some (.int r)) τ := by
  refine x_M.of hG (lv := [(0, .ref (x_ad G 0)), (1, .int x1), (2, .int x2)]) (by decide) (Nat.le_of_ble_eq_true rfl) rfl (fun p e s m below meth c C => ?_)
  rw [F_X9_peak] at h
  refine x_iload_n C 1 dX9_peak_0 rfl rfl ?_
  refine x_iconst C (1 : Int32) dX9_peak_1 (by decide) ?_
  refine x_sipush C (240 : Int32) dX9_peak_2 (by decide) ?_
  obtain ⟨v1, σ1, hc1, h⟩ := x_b_some h
  refine x_callS C (n := 3) (c_X9_in hG hc1) wd_1531 wd_1532 wd_111 wd_1533 (by decide +kernel) rfl ⟨Nat.le_of_ble_eq_true rfl, Nat.le_of_ble_eq_true rfl⟩ ⟨rfl, rfl⟩ rfl (Nat.le_of_ble_eq_true rfl) dX9_peak_5 ?_
  refine x_if_eq C 20 dX9_peak_8 rfl (fun hc => ?_) (fun hc => ?_)
  · replace h := x_itp hc h
    refine x_iconst C (-1 : Int32) dX9_peak_20 (by decide) ?_
    obtain ⟨rfl, rfl⟩ := x_ret h
    exact x_iret C dX9_peak_21
  · replace h := x_itn hc h
    refine x_iload_n C 2 dX9_peak_11 rfl rfl ?_
    refine x_iconst C (0 : Int32) dX9_peak_12 (by decide) ?_
    refine x_iconst C (1 : Int32) dX9_peak_13 (by decide) ?_
    obtain ⟨v2, σ2, hc2, h⟩ := x_b_some h
    refine x_callS C (n := 3) (c_X9_in hG hc2) wd_1531 wd_1532 wd_111 wd_1533 (by decide +kernel) rfl ⟨Nat.le_of_ble_eq_true rfl, Nat.le_of_ble_eq_true rfl⟩ ⟨rfl, rfl⟩ rfl (Nat.le_of_ble_eq_true rfl) dX9_peak_14 ?_
    refine x_if_ne C 22 dX9_peak_17 rfl (fun hc => ?_) (fun hc => ?_)
    · replace h := x_itn hc h
      refine x_aload_n C 0 dX9_peak_22 rfl rfl ?_
      obtain ⟨v3, σ3, hc3, h⟩ := x_b_some h
      refine x_callV C (n := 0) (c_X9_copies hG hc3) kM_0 (by decide) rfl wd_1546 wd_1548 wd_70 wd_111 wd_1549 (by decide +kernel) rfl ⟨Nat.le_of_ble_eq_true rfl, Nat.le_of_ble_eq_true rfl⟩ ⟨rfl, rfl⟩ rfl (Nat.le_of_ble_eq_true rfl) dX9_peak_23 ?_
      refine x_iconst C (0 : Int32) dX9_peak_26 (by decide) ?_
      refine x_istore_n C [(3, .int (0 : Int32)), (0, .ref (x_ad G 0)), (1, .int x1), (2, .int x2)] dX9_peak_27 rfl (by decide) rfl ?_
      refine x_iconst C (-1 : Int32) dX9_peak_28 (by decide) ?_
      refine x_istore C [(4, .int (-1 : Int32)), (3, .int (0 : Int32)), (0, .ref (x_ad G 0)), (1, .int x1), (2, .int x2)] dX9_peak_29 (by decide) rfl ?_
      refine x_iconst C (0 : Int32) dX9_peak_31 (by decide) ?_
      refine x_istore C [(5, .int (0 : Int32)), (4, .int (-1 : Int32)), (3, .int (0 : Int32)), (0, .ref (x_ad G 0)), (1, .int x1), (2, .int x2)] dX9_peak_32 (by decide) rfl ?_
      exact x_sub [3, 4, 5, 2, 1, 0] rfl (w_X9_peak_34 C x_fuel x1 x2 (0 : Int32) (-1 : Int32) (0 : Int32) σ3 h)
    · replace h := x_itp hc h
      refine x_iconst C (-1 : Int32) dX9_peak_20 (by decide) ?_
      obtain ⟨rfl, rfl⟩ := x_ret h
      exact x_iret C dX9_peak_21
abbrev rm_X9_merry : Room := { frames := 5, cells := 0, slots := 0, locals := 119 }
set_option maxHeartbeats 4000000 in
set_option maxRecDepth 100000 in
theorem w_X9_merry_6 {r : Int32} {τ : x_Hp} (C : x_C p s m args meth c cX9_merry 2 (some .int) yX9_merry.cls TM G) : ∀ (n : Nat) (x1 : Int32) (σ : x_Hp) (h : F_X9_merry_6 n x1 σ = some (r, τ)), x_W p l e rm_X9_merry s m args below meth c (MQ below (x_Q TM G (some (.int r)) τ) args s 0 0 (x_A TM G)) TM G 2 6 [(0, .ref (x_ad G 0)), (1, .int x1)] [] σ := by
  intro n
  induction n with
  | zero => intro x1 σ  h; cases h
  | succ n ih =>
    intro x1 σ  h
    have hG : x_OK TM G := C.2.2.2.2.2.2.2.2.1
    rw [F_X9_merry_6] at h
    refine x_iload_n C 1 dX9_merry_6 rfl rfl ?_
    refine x_sipush C (240 : Int32) dX9_merry_7 (by decide) ?_
    refine x_icmp_gt C 42 dX9_merry_10 rfl (fun hc => ?_) (fun hc => ?_)
    · replace h := x_itp hc h
      refine x_bipush C (-2 : Int32) dX9_merry_42 (by decide) ?_
      obtain ⟨rfl, rfl⟩ := x_ret h
      exact x_iret C dX9_merry_44
    · replace h := x_itn hc h
      refine x_aload_n C 0 dX9_merry_13 rfl rfl ?_
      obtain ⟨v2, σ2, hc2, h⟩ := x_b_some h
      refine x_callV C (n := 0) (c_X9_minuteGoes hG hc2) kM_0 (by decide) rfl wd_1573 wd_1575 wd_75 wd_111 wd_1576 (by decide +kernel) rfl ⟨Nat.le_of_ble_eq_true rfl, Nat.le_of_ble_eq_true rfl⟩ ⟨rfl, rfl⟩ rfl (Nat.le_of_ble_eq_true rfl) dX9_merry_14 ?_
      refine x_aload_n C 0 dX9_merry_17 rfl rfl ?_
      refine x_getRq C (k := 49) kM_0 (by decide) rfl x_in9 (by decide) (by decide) rfl rfl wd_1257 rfM_0_49 dX9_merry_18 ?_
      refine x_bipush C (14 : Int32) dX9_merry_21 (by decide) ?_
      refine x_ialdJ C kM_32 (x_inl lnM_32 (by decide)) (j := 14) (by decide) dX9_merry_23 ?_
      refine x_aload_n C 0 dX9_merry_24 rfl rfl ?_
      refine x_getRq C (k := 48) kM_0 (by decide) rfl x_in9 (by decide) (by decide) rfl rfl wd_1256 rfM_0_48 dX9_merry_25 ?_
      refine x_bipush C (14 : Int32) dX9_merry_28 (by decide) ?_
      refine x_ialdJ C kM_31 (x_inl lnM_31 (by decide)) (j := 14) (by decide) dX9_merry_30 ?_
      refine x_icmp_le C 36 dX9_merry_31 rfl (fun hc => ?_) (fun hc => ?_)
      · replace h := x_itp hc h
        refine x_iinc C 1 (x1 + (1 : Int32)) [(1, .int (x1 + (1 : Int32))), (0, .ref (x_ad G 0))] dX9_merry_36 rfl rfl (by decide) rfl ?_
        refine x_goto C 6 dX9_merry_39 rfl ?_
        exact x_sub [1, 0] rfl (ih (x1 + (1 : Int32)) σ2 h)
      · replace h := x_itn hc h
        refine x_iload_n C 1 dX9_merry_34 rfl rfl ?_
        obtain ⟨rfl, rfl⟩ := x_ret h
        exact x_iret C dX9_merry_35
set_option maxHeartbeats 4000000 in
set_option maxRecDepth 100000 in
theorem c_X9_merry (hG : x_OK TM G) {σ τ : x_Hp} {r : Int32} (h : F_X9_merry σ = some (r, τ)) : x_M l TM G yX9_merry cX9_merry 2 (some .int) rm_X9_merry [.ref (x_ad G 0)] σ (some (.int r)) τ := by
  refine x_M.of hG (lv := [(0, .ref (x_ad G 0))]) (by decide) (Nat.le_of_ble_eq_true rfl) rfl (fun p e s m below meth c C => ?_)
  rw [F_X9_merry] at h
  refine x_aload_n C 0 dX9_merry_0 rfl rfl ?_
  obtain ⟨v1, σ1, hc1, h⟩ := x_b_some h
  refine x_callV C (n := 0) (c_X9_copies hG hc1) kM_0 (by decide) rfl wd_1546 wd_1548 wd_70 wd_111 wd_1549 (by decide +kernel) rfl ⟨Nat.le_of_ble_eq_true rfl, Nat.le_of_ble_eq_true rfl⟩ ⟨rfl, rfl⟩ rfl (Nat.le_of_ble_eq_true rfl) dX9_merry_1 ?_
  refine x_iconst C (1 : Int32) dX9_merry_4 (by decide) ?_
  refine x_istore_n C [(1, .int (1 : Int32)), (0, .ref (x_ad G 0))] dX9_merry_5 rfl (by decide) rfl ?_
  exact x_sub [1, 0] rfl (w_X9_merry_6 C x_fuel (1 : Int32) σ1 h)
abbrev rm_X9_sleeps : Room := { frames := 5, cells := 0, slots := 0, locals := 119 }
set_option maxHeartbeats 4000000 in
set_option maxRecDepth 100000 in
theorem w_X9_sleeps_6 {r : Int32} {τ : x_Hp} (C : x_C p s m args meth c cX9_sleeps 2 (some .int) yX9_sleeps.cls TM G) : ∀ (n : Nat) (x1 : Int32) (σ : x_Hp) (h : F_X9_sleeps_6 n x1 σ = some (r, τ)), x_W p l e rm_X9_sleeps s m args below meth c (MQ below (x_Q TM G (some (.int r)) τ) args s 0 0 (x_A TM G)) TM G 2 6 [(0, .ref (x_ad G 0)), (1, .int x1)] [] σ := by
  intro n
  induction n with
  | zero => intro x1 σ  h; cases h
  | succ n ih =>
    intro x1 σ  h
    have hG : x_OK TM G := C.2.2.2.2.2.2.2.2.1
    rw [F_X9_sleeps_6] at h
    refine x_iload_n C 1 dX9_sleeps_6 rfl rfl ?_
    refine x_sipush C (240 : Int32) dX9_sleeps_7 (by decide) ?_
    refine x_icmp_gt C 35 dX9_sleeps_10 rfl (fun hc => ?_) (fun hc => ?_)
    · replace h := x_itp hc h
      refine x_bipush C (-2 : Int32) dX9_sleeps_35 (by decide) ?_
      obtain ⟨rfl, rfl⟩ := x_ret h
      exact x_iret C dX9_sleeps_37
    · replace h := x_itn hc h
      refine x_aload_n C 0 dX9_sleeps_13 rfl rfl ?_
      refine x_getRq C (k := 49) kM_0 (by decide) rfl x_in9 (by decide) (by decide) rfl rfl wd_1257 rfM_0_49 dX9_sleeps_14 ?_
      refine x_bipush C (7 : Int32) dX9_sleeps_17 (by decide) ?_
      refine x_ialdJ C kM_32 (x_inl lnM_32 (by decide)) (j := 7) (by decide) dX9_sleeps_19 ?_
      refine x_if_le C 25 dX9_sleeps_20 rfl (fun hc => ?_) (fun hc => ?_)
      · replace h := x_itp hc h
        refine x_aload_n C 0 dX9_sleeps_25 rfl rfl ?_
        obtain ⟨v2, σ2, hc2, h⟩ := x_b_some h
        refine x_callV C (n := 0) (c_X9_minuteGoes hG hc2) kM_0 (by decide) rfl wd_1573 wd_1575 wd_75 wd_111 wd_1576 (by decide +kernel) rfl ⟨Nat.le_of_ble_eq_true rfl, Nat.le_of_ble_eq_true rfl⟩ ⟨rfl, rfl⟩ rfl (Nat.le_of_ble_eq_true rfl) dX9_sleeps_26 ?_
        refine x_iinc C 1 (x1 + (1 : Int32)) [(1, .int (x1 + (1 : Int32))), (0, .ref (x_ad G 0))] dX9_sleeps_29 rfl rfl (by decide) rfl ?_
        refine x_goto C 6 dX9_sleeps_32 rfl ?_
        exact x_sub [1, 0] rfl (ih (x1 + (1 : Int32)) σ2 h)
      · replace h := x_itn hc h
        refine x_iload_n C 1 dX9_sleeps_23 rfl rfl ?_
        obtain ⟨rfl, rfl⟩ := x_ret h
        exact x_iret C dX9_sleeps_24
set_option maxHeartbeats 4000000 in
set_option maxRecDepth 100000 in
theorem c_X9_sleeps (hG : x_OK TM G) {σ τ : x_Hp} {r : Int32} (h : F_X9_sleeps σ = some (r, τ)) : x_M l TM G yX9_sleeps cX9_sleeps 2 (some .int) rm_X9_sleeps [.ref (x_ad G 0)] σ (some (.int r)) τ := by
  refine x_M.of hG (lv := [(0, .ref (x_ad G 0))]) (by decide) (Nat.le_of_ble_eq_true rfl) rfl (fun p e s m below meth c C => ?_)
  rw [F_X9_sleeps] at h
  refine x_aload_n C 0 dX9_sleeps_0 rfl rfl ?_
  obtain ⟨v1, σ1, hc1, h⟩ := x_b_some h
  refine x_callV C (n := 0) (c_X9_copies hG hc1) kM_0 (by decide) rfl wd_1546 wd_1548 wd_70 wd_111 wd_1549 (by decide +kernel) rfl ⟨Nat.le_of_ble_eq_true rfl, Nat.le_of_ble_eq_true rfl⟩ ⟨rfl, rfl⟩ rfl (Nat.le_of_ble_eq_true rfl) dX9_sleeps_1 ?_
  refine x_iconst C (0 : Int32) dX9_sleeps_4 (by decide) ?_
  refine x_istore_n C [(1, .int (0 : Int32)), (0, .ref (x_ad G 0))] dX9_sleeps_5 rfl (by decide) rfl ?_
  exact x_sub [1, 0] rfl (w_X9_sleeps_6 C x_fuel (0 : Int32) σ1 h)
abbrev rm_X9_fillsRests : Room := { frames := 6, cells := 0, slots := 0, locals := 144 }
set_option maxHeartbeats 4000000 in
set_option maxRecDepth 100000 in
theorem w_X9_fillsRests_77 {τ : x_Hp} (C : x_C p s m args meth c cX9_fillsRests 6 none yX9_fillsRests.cls TM G) {k12 : Int32 → Int32 → Int32 → x_Hp → Option (Unit × x_Hp)} (hk12 : ∀ (x1 : Int32) (x2 : Int32) (x3 : Int32) (σ : x_Hp) (h : k12 x1 x2 x3 σ = some ((), τ)), x_W p l e rm_X9_fillsRests s m args below meth c (MQ below (x_Q TM G none τ) args s 0 0 (x_A TM G)) TM G 6 12 [(0, .ref (x_ad G 0)), (1, .int x1), (2, .int x2), (3, .int x3)] [] σ) : ∀ (n : Nat) (x1 : Int32) (x2 : Int32) (x3 : Int32) (x4 : Int32) (σ : x_Hp) (h : F_X9_fillsRests_77 k12 n x1 x2 x3 x4 σ = some ((), τ)), x_W p l e rm_X9_fillsRests s m args below meth c (MQ below (x_Q TM G none τ) args s 0 0 (x_A TM G)) TM G 6 77 [(0, .ref (x_ad G 0)), (1, .int x1), (2, .int x2), (3, .int x3), (4, .int x4)] [] σ := by
  intro n
  induction n with
  | zero => intro x1 x2 x3 x4 σ  h; cases h
  | succ n ih =>
    intro x1 x2 x3 x4 σ  h
    have hG : x_OK TM G := C.2.2.2.2.2.2.2.2.1
    rw [F_X9_fillsRests_77] at h
    refine x_iload C 4 dX9_fillsRests_77 rfl ?_
    refine x_iload_n C 2 dX9_fillsRests_79 rfl rfl ?_
    refine x_icmp_ge C 108 dX9_fillsRests_80 rfl (fun hc => ?_) (fun hc => ?_)
    · replace h := x_itp hc h
      refine x_iinc C 3 (x3 + (1 : Int32)) [(3, .int (x3 + (1 : Int32))), (0, .ref (x_ad G 0)), (1, .int x1), (2, .int x2), (4, .int x4)] dX9_fillsRests_108 rfl rfl (by decide) rfl ?_
      refine x_goto C 12 dX9_fillsRests_111 rfl ?_
      exact x_sub [1, 2, 3, 0] rfl (hk12 x1 x2 (x3 + (1 : Int32)) σ h)
    · replace h := x_itn hc h
      refine x_aload_n C 0 dX9_fillsRests_83 rfl rfl ?_
      refine x_getRq C (k := 67) kM_0 (by decide) rfl x_in9 (by decide) (by decide) rfl rfl wd_1275 rfM_0_67 dX9_fillsRests_84 ?_
      refine x_bipush C (6 : Int32) dX9_fillsRests_87 (by decide) ?_
      refine x_iload_n C 3 dX9_fillsRests_89 rfl rfl ?_
      refine x_imul C dX9_fillsRests_90 ?_
      refine x_iload C 4 dX9_fillsRests_91 rfl ?_
      refine x_iadd C dX9_fillsRests_93 ?_
      refine x_aload_n C 0 dX9_fillsRests_94 rfl rfl ?_
      refine x_getRq C (k := 59) kM_0 (by decide) rfl x_in9 (by decide) (by decide) rfl rfl wd_1267 rfM_0_59 dX9_fillsRests_95 ?_
      refine x_iload C 4 dX9_fillsRests_98 rfl ?_
      obtain ⟨hi3, h⟩ := x_gd_some h
      refine x_iald C kM_36 (x_inl lnM_36 hi3) dX9_fillsRests_100 ?_
      obtain ⟨hi4, h⟩ := x_gd_some h
      refine x_iast C kM_40 (x_inl lnM_40 hi4) dX9_fillsRests_101 (x_gen h fun σ5 h => ?_)
      refine x_iinc C 4 (x4 + (1 : Int32)) [(4, .int (x4 + (1 : Int32))), (0, .ref (x_ad G 0)), (1, .int x1), (2, .int x2), (3, .int x3)] dX9_fillsRests_102 rfl rfl (by decide) rfl ?_
      refine x_goto C 77 dX9_fillsRests_105 rfl ?_
      exact x_sub [1, 2, 3, 4, 0] rfl (ih x1 x2 x3 (x4 + (1 : Int32)) σ5 h)
set_option maxHeartbeats 4000000 in
set_option maxRecDepth 100000 in
theorem w_X9_fillsRests_65 {τ : x_Hp} (C : x_C p s m args meth c cX9_fillsRests 6 none yX9_fillsRests.cls TM G) {k12 : Int32 → Int32 → Int32 → x_Hp → Option (Unit × x_Hp)} (hk12 : ∀ (x1 : Int32) (x2 : Int32) (x3 : Int32) (σ : x_Hp) (h : k12 x1 x2 x3 σ = some ((), τ)), x_W p l e rm_X9_fillsRests s m args below meth c (MQ below (x_Q TM G none τ) args s 0 0 (x_A TM G)) TM G 6 12 [(0, .ref (x_ad G 0)), (1, .int x1), (2, .int x2), (3, .int x3)] [] σ) {k26 : Int32 → Int32 → Int32 → Int32 → x_Hp → Option (Unit × x_Hp)} (hk26 : ∀ (x1 : Int32) (x2 : Int32) (x3 : Int32) (x4 : Int32) (σ : x_Hp) (h : k26 x1 x2 x3 x4 σ = some ((), τ)), x_W p l e rm_X9_fillsRests s m args below meth c (MQ below (x_Q TM G none τ) args s 0 0 (x_A TM G)) TM G 6 26 [(0, .ref (x_ad G 0)), (1, .int x1), (2, .int x2), (3, .int x3), (4, .int x4)] [] σ) (x1 : Int32) (x2 : Int32) (x3 : Int32) (x4 : Int32) (s0 : Int32) (s1 : Int32) (σ : x_Hp) (h : F_X9_fillsRests_65 k12 k26 x1 x2 x3 x4 s0 s1 σ = some ((), τ)) : x_W p l e rm_X9_fillsRests s m args below meth c (MQ below (x_Q TM G none τ) args s 0 0 (x_A TM G)) TM G 6 65 [(0, .ref (x_ad G 0)), (1, .int x1), (2, .int x2), (3, .int x3), (4, .int x4)] [.int s0, .int s1, .ref (x_ad G 0)] σ := by
  have hG : x_OK TM G := C.2.2.2.2.2.2.2.2.1
  rw [F_X9_fillsRests_65] at h
  obtain ⟨v6, σ6, hc6, h⟩ := x_b_some h
  refine x_callV C (n := 2) (c_X9_gives hG hc6) kM_0 (by decide) rfl wd_1676 wd_1678 wd_90 wd_111 wd_1679 (by decide +kernel) rfl ⟨Nat.le_of_ble_eq_true rfl, Nat.le_of_ble_eq_true rfl⟩ ⟨rfl, rfl⟩ rfl (Nat.le_of_ble_eq_true rfl) dX9_fillsRests_65 ?_
  refine x_iinc C 4 (x4 + (1 : Int32)) [(4, .int (x4 + (1 : Int32))), (0, .ref (x_ad G 0)), (1, .int x1), (2, .int x2), (3, .int x3)] dX9_fillsRests_68 rfl rfl (by decide) rfl ?_
  refine x_goto C 26 dX9_fillsRests_71 rfl ?_
  exact x_sub [1, 2, 3, 4, 0] rfl (hk26 x1 x2 x3 (x4 + (1 : Int32)) σ6 h)
set_option maxHeartbeats 4000000 in
set_option maxRecDepth 100000 in
theorem w_X9_fillsRests_26 {τ : x_Hp} (C : x_C p s m args meth c cX9_fillsRests 6 none yX9_fillsRests.cls TM G) {k12 : Int32 → Int32 → Int32 → x_Hp → Option (Unit × x_Hp)} (hk12 : ∀ (x1 : Int32) (x2 : Int32) (x3 : Int32) (σ : x_Hp) (h : k12 x1 x2 x3 σ = some ((), τ)), x_W p l e rm_X9_fillsRests s m args below meth c (MQ below (x_Q TM G none τ) args s 0 0 (x_A TM G)) TM G 6 12 [(0, .ref (x_ad G 0)), (1, .int x1), (2, .int x2), (3, .int x3)] [] σ) : ∀ (n : Nat) (x1 : Int32) (x2 : Int32) (x3 : Int32) (x4 : Int32) (σ : x_Hp) (h : F_X9_fillsRests_26 k12 n x1 x2 x3 x4 σ = some ((), τ)), x_W p l e rm_X9_fillsRests s m args below meth c (MQ below (x_Q TM G none τ) args s 0 0 (x_A TM G)) TM G 6 26 [(0, .ref (x_ad G 0)), (1, .int x1), (2, .int x2), (3, .int x3), (4, .int x4)] [] σ := by
  intro n
  induction n with
  | zero => intro x1 x2 x3 x4 σ  h; cases h
  | succ n ih =>
    intro x1 x2 x3 x4 σ  h
    have hG : x_OK TM G := C.2.2.2.2.2.2.2.2.1
    rw [F_X9_fillsRests_26] at h
    refine x_iload C 4 dX9_fillsRests_26 rfl ?_
    refine x_iload_n C 2 dX9_fillsRests_28 rfl rfl ?_
    refine x_icmp_ge C 74 dX9_fillsRests_29 rfl (fun hc => ?_) (fun hc => ?_)
    · replace h := x_itp hc h
      refine x_iconst C (0 : Int32) dX9_fillsRests_74 (by decide) ?_
      refine x_istore C [(4, .int (0 : Int32)), (0, .ref (x_ad G 0)), (1, .int x1), (2, .int x2), (3, .int x3)] dX9_fillsRests_75 (by decide) rfl ?_
      exact x_sub [1, 2, 3, 4, 0] rfl (w_X9_fillsRests_77 C hk12 x_fuel x1 x2 x3 (0 : Int32) σ h)
    · replace h := x_itn hc h
      refine x_aload_n C 0 dX9_fillsRests_32 rfl rfl ?_
      refine x_getRq C (k := 48) kM_0 (by decide) rfl x_in9 (by decide) (by decide) rfl rfl wd_1256 rfM_0_48 dX9_fillsRests_33 ?_
      refine x_iconst C (4 : Int32) dX9_fillsRests_36 (by decide) ?_
      refine x_ialdJ C kM_31 (x_inl lnM_31 (by decide)) (j := 4) (by decide) dX9_fillsRests_37 ?_
      refine x_iload C 4 dX9_fillsRests_38 rfl ?_
      refine x_iadd C dX9_fillsRests_40 ?_
      refine x_iload_n C 2 dX9_fillsRests_41 rfl rfl ?_
      obtain ⟨hg, h⟩ := x_gd_some h
      refine x_irem C dX9_fillsRests_42 (x_ne0 hg) ?_
      refine x_istore C [(5, .int (((σ.1 31 4) + x4) - ((σ.1 31 4) + x4) / x2 * x2)), (0, .ref (x_ad G 0)), (1, .int x1), (2, .int x2), (3, .int x3), (4, .int x4)] dX9_fillsRests_43 (by decide) rfl ?_
      refine x_aload_n C 1 dX9_fillsRests_45 rfl rfl ?_
      refine x_iload C 0 dX9_fillsRests_46 rfl ?_
      refine x_iload_n C 4 dX9_fillsRests_48 rfl rfl ?_
      refine x_iload C 0 dX9_fillsRests_49 rfl ?_
      refine x_ishr C dX9_fillsRests_51 ?_
      refine x_iconst C (1 : Int32) dX9_fillsRests_52 (by decide) ?_
      refine x_iand C dX9_fillsRests_53 ?_
      refine x_iconst C (1 : Int32) dX9_fillsRests_54 (by decide) ?_
      refine x_icmp_ne C 64 dX9_fillsRests_55 rfl (fun hc => ?_) (fun hc => ?_)
      · replace h := x_itn hc h
        refine x_iload_n C 2 dX9_fillsRests_64 rfl rfl ?_
        exact x_sub [1, 2, 3, 4, 5] rfl (w_X9_fillsRests_65 C hk12 ih x1 x2 x3 x4 x1 (((σ.1 31 4) + x4) - ((σ.1 31 4) + x4) / x2 * x2) σ h)
      · replace h := x_itp hc h
        refine x_iconst C (2 : Int32) dX9_fillsRests_58 (by decide) ?_
        refine x_iload_n C 2 dX9_fillsRests_59 rfl rfl ?_
        refine x_imul C dX9_fillsRests_60 ?_
        refine x_goto C 65 dX9_fillsRests_61 rfl ?_
        exact x_sub [1, 2, 3, 4, 5] rfl (w_X9_fillsRests_65 C hk12 ih x1 x2 x3 x4 ((2 : Int32) * x1) (((σ.1 31 4) + x4) - ((σ.1 31 4) + x4) / x2 * x2) σ h)
set_option maxHeartbeats 4000000 in
set_option maxRecDepth 100000 in
theorem w_X9_fillsRests_12 {τ : x_Hp} (C : x_C p s m args meth c cX9_fillsRests 6 none yX9_fillsRests.cls TM G) : ∀ (n : Nat) (x1 : Int32) (x2 : Int32) (x3 : Int32) (σ : x_Hp) (h : F_X9_fillsRests_12 n x1 x2 x3 σ = some ((), τ)), x_W p l e rm_X9_fillsRests s m args below meth c (MQ below (x_Q TM G none τ) args s 0 0 (x_A TM G)) TM G 6 12 [(0, .ref (x_ad G 0)), (1, .int x1), (2, .int x2), (3, .int x3)] [] σ := by
  intro n
  induction n with
  | zero => intro x1 x2 x3 σ  h; cases h
  | succ n ih =>
    intro x1 x2 x3 σ  h
    have hG : x_OK TM G := C.2.2.2.2.2.2.2.2.1
    rw [F_X9_fillsRests_12] at h
    refine x_iload_n C 3 dX9_fillsRests_12 rfl rfl ?_
    refine x_iconst C (1 : Int32) dX9_fillsRests_13 (by decide) ?_
    refine x_iload_n C 2 dX9_fillsRests_14 rfl rfl ?_
    refine x_ishl C dX9_fillsRests_15 ?_
    refine x_icmp_ge C 114 dX9_fillsRests_16 rfl (fun hc => ?_) (fun hc => ?_)
    · replace h := x_itp hc h
      obtain ⟨-, rfl⟩ := x_ret h
      exact x_vret C dX9_fillsRests_114
    · replace h := x_itn hc h
      refine x_aload_n C 0 dX9_fillsRests_19 rfl rfl ?_
      obtain ⟨v2, σ2, hc2, h⟩ := x_b_some h
      refine x_callV C (n := 0) (c_X9_starts hG hc2) kM_0 (by decide) rfl wd_1672 wd_1674 wd_89 wd_111 wd_1675 (by decide +kernel) rfl ⟨Nat.le_of_ble_eq_true rfl, Nat.le_of_ble_eq_true rfl⟩ ⟨rfl, rfl⟩ rfl (Nat.le_of_ble_eq_true rfl) dX9_fillsRests_20 ?_
      refine x_iconst C (0 : Int32) dX9_fillsRests_23 (by decide) ?_
      refine x_istore C [(4, .int (0 : Int32)), (0, .ref (x_ad G 0)), (1, .int x1), (2, .int x2), (3, .int x3)] dX9_fillsRests_24 (by decide) rfl ?_
      exact x_sub [1, 2, 3, 4, 0] rfl (w_X9_fillsRests_26 C ih x_fuel x1 x2 x3 (0 : Int32) σ2 h)
set_option maxHeartbeats 4000000 in
set_option maxRecDepth 100000 in
theorem c_X9_fillsRests (hG : x_OK TM G) {x1 : Int32} {σ τ : x_Hp} (h : F_X9_fillsRests x1 σ = some ((), τ)) : x_M l TM G yX9_fillsRests cX9_fillsRests 6 none rm_X9_fillsRests [.ref (x_ad G 0), .int x1] σ none τ := by
  refine x_M.of hG (lv := [(0, .ref (x_ad G 0)), (1, .int x1)]) (by decide) (Nat.le_of_ble_eq_true rfl) rfl (fun p e s m below meth c C => ?_)
  rw [F_X9_fillsRests] at h
  refine x_aload_n C 0 dX9_fillsRests_0 rfl rfl ?_
  refine x_getRq C (k := 23) kM_0 (by decide) rfl x_in9 (by decide) (by decide) rfl rfl wd_1231 rfM_0_23 dX9_fillsRests_1 ?_
  refine x_aload_n C 0 dX9_fillsRests_4 rfl rfl ?_
  refine x_getI C (k := 18) kM_0 (by decide) rfl x_in9 (by decide) (by decide) rfl rfl wd_1226 dX9_fillsRests_5 ?_
  obtain ⟨hi1, h⟩ := x_gd_some h
  refine x_iald C kM_10 (x_inl lnM_10 hi1) dX9_fillsRests_8 ?_
  refine x_istore_n C [(2, .int (σ.1 10 (x_ix (σ.1 0 18)))), (0, .ref (x_ad G 0)), (1, .int x1)] dX9_fillsRests_9 rfl (by decide) rfl ?_
  refine x_iconst C (0 : Int32) dX9_fillsRests_10 (by decide) ?_
  refine x_istore_n C [(3, .int (0 : Int32)), (2, .int (σ.1 10 (x_ix (σ.1 0 18)))), (0, .ref (x_ad G 0)), (1, .int x1)] dX9_fillsRests_11 rfl (by decide) rfl ?_
  exact x_sub [2, 3, 1, 0] rfl (w_X9_fillsRests_12 C x_fuel x1 (σ.1 10 (x_ix (σ.1 0 18))) (0 : Int32) σ h)
abbrev rm_X9_isResting : Room := { frames := 0, cells := 0, slots := 0, locals := 0 }
set_option maxHeartbeats 4000000 in
set_option maxRecDepth 100000 in
theorem w_X9_isResting_2 {r : Int32} {τ : x_Hp} (C : x_C p s m args meth c cX9_isResting 3 (some .boolean) yX9_isResting.cls TM G) : ∀ (n : Nat) (x1 : Int32) (x2 : Int32) (σ : x_Hp) (h : F_X9_isResting_2 n x1 x2 σ = some (r, τ)), x_W p l e rm_X9_isResting s m args below meth c (MQ below (x_Q TM G (some (.int r)) τ) args s 0 0 (x_A TM G)) TM G 3 2 [(0, .ref (x_ad G 0)), (1, .int x1), (2, .int x2)] [] σ := by
  intro n
  induction n with
  | zero => intro x1 x2 σ  h; cases h
  | succ n ih =>
    intro x1 x2 σ  h
    have hG : x_OK TM G := C.2.2.2.2.2.2.2.2.1
    rw [F_X9_isResting_2] at h
    refine x_iload_n C 2 dX9_isResting_2 rfl rfl ?_
    refine x_aload_n C 0 dX9_isResting_3 rfl rfl ?_
    refine x_getRq C (k := 23) kM_0 (by decide) rfl x_in9 (by decide) (by decide) rfl rfl wd_1231 rfM_0_23 dX9_isResting_4 ?_
    refine x_aload_n C 0 dX9_isResting_7 rfl rfl ?_
    refine x_getI C (k := 18) kM_0 (by decide) rfl x_in9 (by decide) (by decide) rfl rfl wd_1226 dX9_isResting_8 ?_
    obtain ⟨hi1, h⟩ := x_gd_some h
    refine x_iald C kM_10 (x_inl lnM_10 hi1) dX9_isResting_11 ?_
    refine x_icmp_ge C 52 dX9_isResting_12 rfl (fun hc => ?_) (fun hc => ?_)
    · replace h := x_itp hc h
      refine x_iconst C (1 : Int32) dX9_isResting_52 (by decide) ?_
      obtain ⟨rfl, rfl⟩ := x_ret h
      exact x_zret C rfl dX9_isResting_53
    · replace h := x_itn hc h
      refine x_aload_n C 0 dX9_isResting_15 rfl rfl ?_
      refine x_getRq C (k := 67) kM_0 (by decide) rfl x_in9 (by decide) (by decide) rfl rfl wd_1275 rfM_0_67 dX9_isResting_16 ?_
      refine x_bipush C (6 : Int32) dX9_isResting_19 (by decide) ?_
      refine x_iload_n C 1 dX9_isResting_21 rfl rfl ?_
      refine x_iconst C (1 : Int32) dX9_isResting_22 (by decide) ?_
      refine x_iload_n C 2 dX9_isResting_23 rfl rfl ?_
      refine x_ishl C dX9_isResting_24 ?_
      refine x_ixor C dX9_isResting_25 ?_
      refine x_imul C dX9_isResting_26 ?_
      refine x_iload_n C 2 dX9_isResting_27 rfl rfl ?_
      refine x_iadd C dX9_isResting_28 ?_
      obtain ⟨hi2, h⟩ := x_gd_some h
      refine x_iald C kM_40 (x_inl lnM_40 hi2) dX9_isResting_29 ?_
      refine x_aload_n C 0 dX9_isResting_30 rfl rfl ?_
      refine x_getRq C (k := 67) kM_0 (by decide) rfl x_in9 (by decide) (by decide) rfl rfl wd_1275 rfM_0_67 dX9_isResting_31 ?_
      refine x_bipush C (6 : Int32) dX9_isResting_34 (by decide) ?_
      refine x_iload_n C 1 dX9_isResting_36 rfl rfl ?_
      refine x_imul C dX9_isResting_37 ?_
      refine x_iload_n C 2 dX9_isResting_38 rfl rfl ?_
      refine x_iadd C dX9_isResting_39 ?_
      obtain ⟨hi3, h⟩ := x_gd_some h
      refine x_iald C kM_40 (x_inl lnM_40 hi3) dX9_isResting_40 ?_
      refine x_icmp_le C 46 dX9_isResting_41 rfl (fun hc => ?_) (fun hc => ?_)
      · replace h := x_itp hc h
        refine x_iinc C 2 (x2 + (1 : Int32)) [(2, .int (x2 + (1 : Int32))), (0, .ref (x_ad G 0)), (1, .int x1)] dX9_isResting_46 rfl rfl (by decide) rfl ?_
        refine x_goto C 2 dX9_isResting_49 rfl ?_
        exact x_sub [1, 2, 0] rfl (ih x1 (x2 + (1 : Int32)) σ h)
      · replace h := x_itn hc h
        refine x_iconst C (0 : Int32) dX9_isResting_44 (by decide) ?_
        obtain ⟨rfl, rfl⟩ := x_ret h
        exact x_zret C rfl dX9_isResting_45
set_option maxHeartbeats 4000000 in
set_option maxRecDepth 100000 in
theorem c_X9_isResting (hG : x_OK TM G) {x1 : Int32} {σ τ : x_Hp} {r : Int32} (h : F_X9_isResting x1 σ = some (r, τ)) : x_M l TM G yX9_isResting cX9_isResting 3 (some .boolean) rm_X9_isResting [.ref (x_ad G 0), .int x1] σ (some (.int r)) τ := by
  refine x_M.of hG (lv := [(0, .ref (x_ad G 0)), (1, .int x1)]) (by decide) (Nat.le_of_ble_eq_true rfl) rfl (fun p e s m below meth c C => ?_)
  rw [F_X9_isResting] at h
  refine x_iconst C (0 : Int32) dX9_isResting_0 (by decide) ?_
  refine x_istore_n C [(2, .int (0 : Int32)), (0, .ref (x_ad G 0)), (1, .int x1)] dX9_isResting_1 rfl (by decide) rfl ?_
  exact x_sub [1, 2, 0] rfl (w_X9_isResting_2 C x_fuel x1 (0 : Int32) σ h)
abbrev rm_X9_rests : Room := { frames := 7, cells := 0, slots := 0, locals := 169 }
set_option maxHeartbeats 4000000 in
set_option maxRecDepth 100000 in
theorem w_X9_rests_73 {r : Int32} {τ : x_Hp} (C : x_C p s m args meth c cX9_rests 5 (some .int) yX9_rests.cls TM G) {k34 : Int32 → Int32 → Int32 → x_Hp → Option (Int32 × x_Hp)} (hk34 : ∀ (x2 : Int32) (x3 : Int32) (x4 : Int32) (σ : x_Hp) (h : k34 x2 x3 x4 σ = some (r, τ)), x_W p l e rm_X9_rests s m args below meth c (MQ below (x_Q TM G (some (.int r)) τ) args s 0 0 (x_A TM G)) TM G 5 34 [(0, .ref (x_ad G 0)), (2, .int x2), (3, .int x3), (4, .int x4)] [] σ) (x2 : Int32) (x3 : Int32) (x4 : Int32) (σ : x_Hp) (h : F_X9_rests_73 k34 x2 x3 x4 σ = some (r, τ)) : x_W p l e rm_X9_rests s m args below meth c (MQ below (x_Q TM G (some (.int r)) τ) args s 0 0 (x_A TM G)) TM G 5 73 [(0, .ref (x_ad G 0)), (2, .int x2), (3, .int x3), (4, .int x4)] [] σ := by
  have hG : x_OK TM G := C.2.2.2.2.2.2.2.2.1
  rw [F_X9_rests_73] at h
  refine x_iinc C 3 (x4 + (1 : Int32)) [(4, .int (x4 + (1 : Int32))), (0, .ref (x_ad G 0)), (2, .int x2), (3, .int x3)] dX9_rests_73 rfl rfl (by decide) rfl ?_
  refine x_goto C 34 dX9_rests_76 rfl ?_
  exact x_sub [1, 2, 3, 0] rfl (hk34 x2 x3 (x4 + (1 : Int32)) σ h)
set_option maxHeartbeats 4000000 in
set_option maxRecDepth 100000 in
theorem w_X9_rests_34 {r : Int32} {τ : x_Hp} (C : x_C p s m args meth c cX9_rests 5 (some .int) yX9_rests.cls TM G) : ∀ (n : Nat) (x2 : Int32) (x3 : Int32) (x4 : Int32) (σ : x_Hp) (h : F_X9_rests_34 n x2 x3 x4 σ = some (r, τ)), x_W p l e rm_X9_rests s m args below meth c (MQ below (x_Q TM G (some (.int r)) τ) args s 0 0 (x_A TM G)) TM G 5 34 [(0, .ref (x_ad G 0)), (2, .int x2), (3, .int x3), (4, .int x4)] [] σ := by
  intro n
  induction n with
  | zero => intro x2 x3 x4 σ  h; cases h
  | succ n ih =>
    intro x2 x3 x4 σ  h
    have hG : x_OK TM G := C.2.2.2.2.2.2.2.2.1
    rw [F_X9_rests_34] at h
    refine x_iload C 3 dX9_rests_34 rfl ?_
    refine x_iconst C (1 : Int32) dX9_rests_36 (by decide) ?_
    refine x_aload_n C 0 dX9_rests_37 rfl rfl ?_
    refine x_getRq C (k := 23) kM_0 (by decide) rfl x_in9 (by decide) (by decide) rfl rfl wd_1231 rfM_0_23 dX9_rests_38 ?_
    refine x_aload_n C 0 dX9_rests_41 rfl rfl ?_
    refine x_getI C (k := 18) kM_0 (by decide) rfl x_in9 (by decide) (by decide) rfl rfl wd_1226 dX9_rests_42 ?_
    obtain ⟨hi4, h⟩ := x_gd_some h
    refine x_iald C kM_10 (x_inl lnM_10 hi4) dX9_rests_45 ?_
    refine x_ishl C dX9_rests_46 ?_
    refine x_icmp_ge C 79 dX9_rests_47 rfl (fun hc => ?_) (fun hc => ?_)
    · replace h := x_itp hc h
      refine x_iload_n C 1 dX9_rests_79 rfl rfl ?_
      refine x_iconst C (-1 : Int32) dX9_rests_80 (by decide) ?_
      refine x_icmp_ne C 88 dX9_rests_81 rfl (fun hc => ?_) (fun hc => ?_)
      · replace h := x_itn hc h
        refine x_iconst C (-1 : Int32) dX9_rests_88 (by decide) ?_
        obtain ⟨rfl, rfl⟩ := x_ret h
        exact x_iret C dX9_rests_89
      · replace h := x_itp hc h
        refine x_iload_n C 2 dX9_rests_84 rfl rfl ?_
        refine x_goto C 89 dX9_rests_85 rfl ?_
        obtain ⟨rfl, rfl⟩ := x_ret h
        exact x_iret C dX9_rests_89
    · replace h := x_itn hc h
      refine x_aload_n C 0 dX9_rests_50 rfl rfl ?_
      refine x_iload C 3 dX9_rests_51 rfl ?_
      obtain ⟨v5, σ5, hc5, h⟩ := x_b_some h
      refine x_callV C (n := 1) (c_X9_isResting hG hc5) kM_0 (by decide) rfl wd_1777 wd_1779 wd_99 wd_111 wd_1780 (by decide +kernel) rfl ⟨Nat.le_of_ble_eq_true rfl, Nat.le_of_ble_eq_true rfl⟩ ⟨rfl, rfl⟩ rfl (Nat.le_of_ble_eq_true rfl) dX9_rests_53 ?_
      refine x_if_ne C 62 dX9_rests_56 rfl (fun hc => ?_) (fun hc => ?_)
      · replace h := x_itn hc h
        refine x_iload_n C 2 dX9_rests_62 rfl rfl ?_
        refine x_iload_n C 1 dX9_rests_63 rfl rfl ?_
        refine x_icmp_ne C 70 dX9_rests_64 rfl (fun hc => ?_) (fun hc => ?_)
        · replace h := x_itn hc h
          refine x_iinc C 2 (x3 + (1 : Int32)) [(3, .int (x3 + (1 : Int32))), (0, .ref (x_ad G 0)), (2, .int x2), (4, .int x4)] dX9_rests_70 rfl rfl (by decide) rfl ?_
          exact x_sub [1, 2, 0, 3] rfl (w_X9_rests_73 C ih x2 (x3 + (1 : Int32)) x4 σ5 h)
        · replace h := x_itp hc h
          refine x_iload C 3 dX9_rests_67 rfl ?_
          obtain ⟨rfl, rfl⟩ := x_ret h
          exact x_iret C dX9_rests_69
      · replace h := x_itp hc h
        refine x_goto C 73 dX9_rests_59 rfl ?_
        exact x_sub [0, 1, 2, 3] rfl (w_X9_rests_73 C ih x2 x3 x4 σ5 h)
set_option maxHeartbeats 4000000 in
set_option maxRecDepth 100000 in
theorem c_X9_rests (hG : x_OK TM G) {x1 : Int32} {x2 : Int32} {σ τ : x_Hp} {r : Int32} (h : F_X9_rests x1 x2 σ = some (r, τ)) : x_M l TM G yX9_rests cX9_rests 5 (some .int) rm_X9_rests [.ref (x_ad G 0), .int x1, .int x2] σ (some (.int r)) τ := by
  refine x_M.of hG (lv := [(0, .ref (x_ad G 0)), (1, .int x1), (2, .int x2)]) (by decide) (Nat.le_of_ble_eq_true rfl) rfl (fun p e s m below meth c C => ?_)
  rw [F_X9_rests] at h
  refine x_iload_n C 1 dX9_rests_0 rfl rfl ?_
  obtain ⟨v1, σ1, hc1, h⟩ := x_b_some h
  refine x_callS C (n := 1) (c_X9_isShort hG hc1) wd_1657 wd_1658 wd_111 wd_1659 (by decide +kernel) rfl ⟨Nat.le_of_ble_eq_true rfl, Nat.le_of_ble_eq_true rfl⟩ ⟨rfl, rfl⟩ rfl (Nat.le_of_ble_eq_true rfl) dX9_rests_1 ?_
  refine x_if_eq C 12 dX9_rests_4 rfl (fun hc => ?_) (fun hc => ?_)
  · replace h := x_itp hc h
    refine x_iconst C (-1 : Int32) dX9_rests_12 (by decide) ?_
    obtain ⟨rfl, rfl⟩ := x_ret h
    exact x_iret C dX9_rests_13
  · replace h := x_itn hc h
    refine x_iload_n C 2 dX9_rests_7 rfl rfl ?_
    refine x_iconst C (-1 : Int32) dX9_rests_8 (by decide) ?_
    refine x_icmp_ge C 14 dX9_rests_9 rfl (fun hc => ?_) (fun hc => ?_)
    · replace h := x_itp hc h
      refine x_aload_n C 0 dX9_rests_14 rfl rfl ?_
      obtain ⟨v2, σ2, hc2, h⟩ := x_b_some h
      refine x_callV C (n := 0) (c_X9_isAwake hG hc2) kM_0 (by decide) rfl wd_1605 wd_1607 wd_81 wd_111 wd_1608 (by decide +kernel) rfl ⟨Nat.le_of_ble_eq_true rfl, Nat.le_of_ble_eq_true rfl⟩ ⟨rfl, rfl⟩ rfl (Nat.le_of_ble_eq_true rfl) dX9_rests_15 ?_
      refine x_if_ne C 24 dX9_rests_18 rfl (fun hc => ?_) (fun hc => ?_)
      · replace h := x_itn hc h
        refine x_aload_n C 0 dX9_rests_24 rfl rfl ?_
        refine x_iload_n C 1 dX9_rests_25 rfl rfl ?_
        obtain ⟨v3, σ3, hc3, h⟩ := x_b_some h
        refine x_callV C (n := 1) (c_X9_fillsRests hG hc3) kM_0 (by decide) rfl wd_1773 wd_1775 wd_98 wd_111 wd_1776 (by decide +kernel) rfl ⟨Nat.le_of_ble_eq_true rfl, Nat.le_of_ble_eq_true rfl⟩ ⟨rfl, rfl⟩ rfl (Nat.le_of_ble_eq_true rfl) dX9_rests_26 ?_
        refine x_iconst C (0 : Int32) dX9_rests_29 (by decide) ?_
        refine x_istore_n C [(3, .int (0 : Int32)), (0, .ref (x_ad G 0)), (1, .int x1), (2, .int x2)] dX9_rests_30 rfl (by decide) rfl ?_
        refine x_iconst C (0 : Int32) dX9_rests_31 (by decide) ?_
        refine x_istore C [(4, .int (0 : Int32)), (3, .int (0 : Int32)), (0, .ref (x_ad G 0)), (1, .int x1), (2, .int x2)] dX9_rests_32 (by decide) rfl ?_
        exact x_sub [2, 4, 1, 0] rfl (w_X9_rests_34 C x_fuel x2 (0 : Int32) (0 : Int32) σ3 h)
      · replace h := x_itp hc h
        refine x_bipush C (-2 : Int32) dX9_rests_21 (by decide) ?_
        obtain ⟨rfl, rfl⟩ := x_ret h
        exact x_iret C dX9_rests_23
    · replace h := x_itn hc h
      refine x_iconst C (-1 : Int32) dX9_rests_12 (by decide) ?_
      obtain ⟨rfl, rfl⟩ := x_ret h
      exact x_iret C dX9_rests_13
abbrev rm_X9_silk : Room := { frames := 6, cells := 0, slots := 0, locals := 141 }
set_option maxHeartbeats 4000000 in
set_option maxRecDepth 100000 in
theorem w_X9_silk_27 {r : Int32} {τ : x_Hp} (C : x_C p s m args meth c cX9_silk 5 (some .int) yX9_silk.cls TM G) : ∀ (n : Nat) (x1 : Int32) (x2 : Int32) (x3 : Int32) (x4 : Int32) (σ : x_Hp) (h : F_X9_silk_27 n x1 x2 x3 x4 σ = some (r, τ)), x_W p l e rm_X9_silk s m args below meth c (MQ below (x_Q TM G (some (.int r)) τ) args s 0 0 (x_A TM G)) TM G 5 27 [(0, .ref (x_ad G 0)), (1, .int x1), (2, .int x2), (3, .int x3), (4, .int x4)] [] σ := by
  intro n
  induction n with
  | zero => intro x1 x2 x3 x4 σ  h; cases h
  | succ n ih =>
    intro x1 x2 x3 x4 σ  h
    have hG : x_OK TM G := C.2.2.2.2.2.2.2.2.1
    rw [F_X9_silk_27] at h
    refine x_iload C 4 dX9_silk_27 rfl ?_
    refine x_iload_n C 2 dX9_silk_29 rfl rfl ?_
    refine x_icmp_ge C 77 dX9_silk_30 rfl (fun hc => ?_) (fun hc => ?_)
    · replace h := x_itp hc h
      refine x_iload_n C 3 dX9_silk_77 rfl rfl ?_
      obtain ⟨rfl, rfl⟩ := x_ret h
      exact x_iret C dX9_silk_78
    · replace h := x_itn hc h
      refine x_aload_n C 0 dX9_silk_33 rfl rfl ?_
      obtain ⟨v3, σ3, hc3, h⟩ := x_b_some h
      refine x_callV C (n := 0) (c_X9_copies hG hc3) kM_0 (by decide) rfl wd_1546 wd_1548 wd_70 wd_111 wd_1549 (by decide +kernel) rfl ⟨Nat.le_of_ble_eq_true rfl, Nat.le_of_ble_eq_true rfl⟩ ⟨rfl, rfl⟩ rfl (Nat.le_of_ble_eq_true rfl) dX9_silk_34 ?_
      refine x_aload_n C 0 dX9_silk_37 rfl rfl ?_
      refine x_dup C dX9_silk_38 rfl ?_
      refine x_getI C (k := 50) kM_0 (by decide) rfl x_in9 (by decide) (by decide) rfl rfl wd_1258 dX9_silk_39 ?_
      refine x_iload C 4 dX9_silk_42 rfl ?_
      refine x_iadd C dX9_silk_44 ?_
      refine x_putI C (k := 50) tyX9 kM_0 (by decide) rfl x_in9 tyX9_ok nmX9 (by decide) (by decide) rfl rfl wd_1258 rfl (tyX9_ok 50 (by decide)) rfl rfl dX9_silk_45 (x_gen h fun σ4 h => ?_)
      refine x_aload_n C 0 dX9_silk_48 rfl rfl ?_
      refine x_iload_n C 1 dX9_silk_49 rfl rfl ?_
      obtain ⟨v5, σ5, hc5, h⟩ := x_b_some h
      refine x_callV C (n := 1) (c_X9_goes hG hc5) kM_0 (by decide) rfl wd_1569 wd_1571 wd_74 wd_111 wd_1572 (by decide +kernel) rfl ⟨Nat.le_of_ble_eq_true rfl, Nat.le_of_ble_eq_true rfl⟩ ⟨rfl, rfl⟩ rfl (Nat.le_of_ble_eq_true rfl) dX9_silk_50 ?_
      refine x_iload_n C 3 dX9_silk_53 rfl rfl ?_
      refine x_aload_n C 0 dX9_silk_54 rfl rfl ?_
      refine x_getRq C (k := 49) kM_0 (by decide) rfl x_in9 (by decide) (by decide) rfl rfl wd_1257 rfM_0_49 dX9_silk_55 ?_
      refine x_bipush C (15 : Int32) dX9_silk_58 (by decide) ?_
      refine x_ialdJ C kM_32 (x_inl lnM_32 (by decide)) (j := 15) (by decide) dX9_silk_60 ?_
      refine x_aload_n C 0 dX9_silk_61 rfl rfl ?_
      refine x_getRq C (k := 48) kM_0 (by decide) rfl x_in9 (by decide) (by decide) rfl rfl wd_1256 rfM_0_48 dX9_silk_62 ?_
      refine x_bipush C (15 : Int32) dX9_silk_65 (by decide) ?_
      refine x_ialdJ C kM_31 (x_inl lnM_31 (by decide)) (j := 15) (by decide) dX9_silk_67 ?_
      refine x_isub C dX9_silk_68 ?_
      refine x_iadd C dX9_silk_69 ?_
      refine x_istore_n C [(3, .int (x3 + ((σ5.1 32 15) - (σ5.1 31 15)))), (0, .ref (x_ad G 0)), (1, .int x1), (2, .int x2), (4, .int x4)] dX9_silk_70 rfl (by decide) rfl ?_
      refine x_iinc C 4 (x4 + (1 : Int32)) [(4, .int (x4 + (1 : Int32))), (3, .int (x3 + ((σ5.1 32 15) - (σ5.1 31 15)))), (0, .ref (x_ad G 0)), (1, .int x1), (2, .int x2)] dX9_silk_71 rfl rfl (by decide) rfl ?_
      refine x_goto C 27 dX9_silk_74 rfl ?_
      exact x_sub [2, 3, 4, 1, 0] rfl (ih x1 x2 (x3 + ((σ5.1 32 15) - (σ5.1 31 15))) (x4 + (1 : Int32)) σ5 h)
set_option maxHeartbeats 4000000 in
set_option maxRecDepth 100000 in
theorem c_X9_silk (hG : x_OK TM G) {x1 : Int32} {x2 : Int32} {σ τ : x_Hp} {r : Int32} (h : F_X9_silk x1 x2 σ = some (r, τ)) : x_M l TM G yX9_silk cX9_silk 5 (some .int) rm_X9_silk [.ref (x_ad G 0), .int x1, .int x2] σ (some (.int r)) τ := by
  refine x_M.of hG (lv := [(0, .ref (x_ad G 0)), (1, .int x1), (2, .int x2)]) (by decide) (Nat.le_of_ble_eq_true rfl) rfl (fun p e s m below meth c C => ?_)
  rw [F_X9_silk] at h
  refine x_iload_n C 1 dX9_silk_0 rfl rfl ?_
  refine x_iconst C (0 : Int32) dX9_silk_1 (by decide) ?_
  refine x_bipush C (120 : Int32) dX9_silk_2 (by decide) ?_
  obtain ⟨v1, σ1, hc1, h⟩ := x_b_some h
  refine x_callS C (n := 3) (c_X9_in hG hc1) wd_1531 wd_1532 wd_111 wd_1533 (by decide +kernel) rfl ⟨Nat.le_of_ble_eq_true rfl, Nat.le_of_ble_eq_true rfl⟩ ⟨rfl, rfl⟩ rfl (Nat.le_of_ble_eq_true rfl) dX9_silk_4 ?_
  refine x_if_eq C 20 dX9_silk_7 rfl (fun hc => ?_) (fun hc => ?_)
  · replace h := x_itp hc h
    refine x_iconst C (-1 : Int32) dX9_silk_20 (by decide) ?_
    obtain ⟨rfl, rfl⟩ := x_ret h
    exact x_iret C dX9_silk_21
  · replace h := x_itn hc h
    refine x_iload_n C 2 dX9_silk_10 rfl rfl ?_
    refine x_iconst C (1 : Int32) dX9_silk_11 (by decide) ?_
    refine x_bipush C (20 : Int32) dX9_silk_12 (by decide) ?_
    obtain ⟨v2, σ2, hc2, h⟩ := x_b_some h
    refine x_callS C (n := 3) (c_X9_in hG hc2) wd_1531 wd_1532 wd_111 wd_1533 (by decide +kernel) rfl ⟨Nat.le_of_ble_eq_true rfl, Nat.le_of_ble_eq_true rfl⟩ ⟨rfl, rfl⟩ rfl (Nat.le_of_ble_eq_true rfl) dX9_silk_14 ?_
    refine x_if_ne C 22 dX9_silk_17 rfl (fun hc => ?_) (fun hc => ?_)
    · replace h := x_itn hc h
      refine x_iconst C (0 : Int32) dX9_silk_22 (by decide) ?_
      refine x_istore_n C [(3, .int (0 : Int32)), (0, .ref (x_ad G 0)), (1, .int x1), (2, .int x2)] dX9_silk_23 rfl (by decide) rfl ?_
      refine x_iconst C (0 : Int32) dX9_silk_24 (by decide) ?_
      refine x_istore C [(4, .int (0 : Int32)), (3, .int (0 : Int32)), (0, .ref (x_ad G 0)), (1, .int x1), (2, .int x2)] dX9_silk_25 (by decide) rfl ?_
      exact x_sub [2, 3, 4, 1, 0] rfl (w_X9_silk_27 C x_fuel x1 x2 (0 : Int32) (0 : Int32) σ2 h)
    · replace h := x_itp hc h
      refine x_iconst C (-1 : Int32) dX9_silk_20 (by decide) ?_
      obtain ⟨rfl, rfl⟩ := x_ret h
      exact x_iret C dX9_silk_21
abbrev rm_X9_common : Room := { frames := 0, cells := 0, slots := 0, locals := 0 }
set_option maxHeartbeats 4000000 in
set_option maxRecDepth 100000 in
theorem w_X9_common_4 {r : Int32} {τ : x_Hp} (C : x_C p s m args meth c cX9_common 5 (some .int) yX9_common.cls TM G) : ∀ (n : Nat) (x2 : Int32) (x3 : Int32) (σ : x_Hp) (h : F_X9_common_4 n x2 x3 σ = some (r, τ)), x_W p l e rm_X9_common s m args below meth c (MQ below (x_Q TM G (some (.int r)) τ) args s 0 0 (x_A TM G)) TM G 5 4 [(2, .int x2), (3, .int x3)] [] σ := by
  intro n
  induction n with
  | zero => intro x2 x3 σ  h; cases h
  | succ n ih =>
    intro x2 x3 σ  h
    have hG : x_OK TM G := C.2.2.2.2.2.2.2.2.1
    rw [F_X9_common_4] at h
    refine x_iload_n C 1 dX9_common_4 rfl rfl ?_
    refine x_if_eq C 21 dX9_common_5 rfl (fun hc => ?_) (fun hc => ?_)
    · replace h := x_itp hc h
      refine x_iload_n C 0 dX9_common_21 rfl rfl ?_
      obtain ⟨rfl, rfl⟩ := x_ret h
      exact x_iret C dX9_common_22
    · replace h := x_itn hc h
      refine x_iload_n C 0 dX9_common_8 rfl rfl ?_
      refine x_iload_n C 1 dX9_common_9 rfl rfl ?_
      obtain ⟨hg, h⟩ := x_gd_some h
      refine x_irem C dX9_common_10 (x_ne0 hg) ?_
      refine x_istore C [(4, .int (x2 - x2 / x3 * x3)), (2, .int x2), (3, .int x3)] dX9_common_11 (by decide) rfl ?_
      refine x_iload_n C 2 dX9_common_13 rfl rfl ?_
      refine x_istore_n C [(2, .int x3), (4, .int (x2 - x2 / x3 * x3)), (3, .int x3)] dX9_common_14 rfl (by decide) rfl ?_
      refine x_iload C 1 dX9_common_15 rfl ?_
      refine x_istore_n C [(3, .int (x2 - x2 / x3 * x3)), (2, .int x3), (4, .int (x2 - x2 / x3 * x3))] dX9_common_17 rfl (by decide) rfl ?_
      refine x_goto C 4 dX9_common_18 rfl ?_
      exact x_sub [1, 0] rfl (ih x3 (x2 - x2 / x3 * x3) σ h)
set_option maxHeartbeats 4000000 in
set_option maxRecDepth 100000 in
theorem c_X9_common (hG : x_OK TM G) {x0 : Int32} {x1 : Int32} {σ τ : x_Hp} {r : Int32} (h : F_X9_common x0 x1 σ = some (r, τ)) : x_M l TM G yX9_common cX9_common 5 (some .int) rm_X9_common [.int x0, .int x1] σ (some (.int r)) τ := by
  refine x_M.of hG (lv := [(0, .int x0), (1, .int x1)]) (by decide) (Nat.le_of_ble_eq_true rfl) rfl (fun p e s m below meth c C => ?_)
  rw [F_X9_common] at h
  refine x_iload_n C 0 dX9_common_0 rfl rfl ?_
  refine x_istore_n C [(2, .int x0), (0, .int x0), (1, .int x1)] dX9_common_1 rfl (by decide) rfl ?_
  refine x_iload_n C 2 dX9_common_2 rfl rfl ?_
  refine x_istore_n C [(3, .int x1), (2, .int x0), (0, .int x0), (1, .int x1)] dX9_common_3 rfl (by decide) rfl ?_
  exact x_sub [1, 0] rfl (w_X9_common_4 C x_fuel x0 x1 σ h)
abbrev rm_X9_likes : Room := { frames := 2, cells := 0, slots := 0, locals := 43 }
set_option maxHeartbeats 4000000 in
set_option maxRecDepth 100000 in
theorem c_X9_likes (hG : x_OK TM G) {x1 : Int32} {x2 : Int32} {σ τ : x_Hp} {r : Int32} (h : F_X9_likes x1 x2 σ = some (r, τ)) : x_M l TM G yX9_likes cX9_likes 5 (some .int) rm_X9_likes [.ref (x_ad G 0), .int x1, .int x2] σ (some (.int r)) τ := by
  refine x_M.of hG (lv := [(0, .ref (x_ad G 0)), (1, .int x1), (2, .int x2)]) (by decide) (Nat.le_of_ble_eq_true rfl) rfl (fun p e s m below meth c C => ?_)
  rw [F_X9_likes] at h
  refine x_aload_n C 0 dX9_likes_0 rfl rfl ?_
  refine x_iload_n C 1 dX9_likes_1 rfl rfl ?_
  obtain ⟨v1, σ1, hc1, h⟩ := x_b_some h
  refine x_callV C (n := 1) (c_X9_isAunt hG hc1) kM_0 (by decide) rfl wd_1538 wd_1540 wd_69 wd_111 wd_1541 (by decide +kernel) rfl ⟨Nat.le_of_ble_eq_true rfl, Nat.le_of_ble_eq_true rfl⟩ ⟨rfl, rfl⟩ rfl (Nat.le_of_ble_eq_true rfl) dX9_likes_2 ?_
  refine x_if_ne C 10 dX9_likes_5 rfl (fun hc => ?_) (fun hc => ?_)
  · replace h := x_itn hc h
    refine x_aload_n C 0 dX9_likes_10 rfl rfl ?_
    refine x_getRq C (k := 48) kM_0 (by decide) rfl x_in9 (by decide) (by decide) rfl rfl wd_1256 rfM_0_48 dX9_likes_11 ?_
    refine x_bipush C (20 : Int32) dX9_likes_14 (by decide) ?_
    refine x_iload_n C 1 dX9_likes_16 rfl rfl ?_
    refine x_iadd C dX9_likes_17 ?_
    obtain ⟨hi2, h⟩ := x_gd_some h
    refine x_iald C kM_31 (x_inl lnM_31 hi2) dX9_likes_18 ?_
    refine x_istore_n C [(3, .int (σ1.1 31 (x_ix ((20 : Int32) + x1)))), (0, .ref (x_ad G 0)), (1, .int x1), (2, .int x2)] dX9_likes_19 rfl (by decide) rfl ?_
    refine x_iload_n C 0 dX9_likes_20 rfl rfl ?_
    refine x_if_ne C 27 dX9_likes_21 rfl (fun hc => ?_) (fun hc => ?_)
    · replace h := x_itn hc h
      refine x_aload_n C 1 dX9_likes_27 rfl rfl ?_
      refine x_getRq C (k := 48) kM_0 (by decide) rfl x_in9 (by decide) (by decide) rfl rfl wd_1256 rfM_0_48 dX9_likes_28 ?_
      refine x_bipush C (26 : Int32) dX9_likes_31 (by decide) ?_
      refine x_iload_n C 2 dX9_likes_33 rfl rfl ?_
      refine x_iadd C dX9_likes_34 ?_
      obtain ⟨hi3, h⟩ := x_gd_some h
      refine x_iald C kM_31 (x_inl lnM_31 hi3) dX9_likes_35 ?_
      refine x_iload_n C 0 dX9_likes_36 rfl rfl ?_
      obtain ⟨v4, σ4, hc4, h⟩ := x_b_some h
      refine x_callS C (n := 2) (c_X9_common hG hc4) wd_1789 wd_1790 wd_111 wd_1791 (by decide +kernel) rfl ⟨Nat.le_of_ble_eq_true rfl, Nat.le_of_ble_eq_true rfl⟩ ⟨rfl, rfl⟩ rfl (Nat.le_of_ble_eq_true rfl) dX9_likes_37 ?_
      refine x_istore C [(4, .int v4), (3, .int (σ1.1 31 (x_ix ((20 : Int32) + x1)))), (0, .ref (x_ad G 0)), (1, .int x1), (2, .int x2)] dX9_likes_40 (by decide) rfl ?_
      refine x_iload_n C 4 dX9_likes_42 rfl rfl ?_
      refine x_if_eq C 50 dX9_likes_43 rfl (fun hc => ?_) (fun hc => ?_)
      · replace h := x_itp hc h
        refine x_aload_n C 2 dX9_likes_50 rfl rfl ?_
        refine x_getRq C (k := 48) kM_0 (by decide) rfl x_in9 (by decide) (by decide) rfl rfl wd_1256 rfM_0_48 dX9_likes_51 ?_
        refine x_bipush C (26 : Int32) dX9_likes_54 (by decide) ?_
        refine x_iload_n C 3 dX9_likes_56 rfl rfl ?_
        refine x_iadd C dX9_likes_57 ?_
        obtain ⟨hi5, h⟩ := x_gd_some h
        refine x_iald C kM_31 (x_inl lnM_31 hi5) dX9_likes_58 ?_
        refine x_iload C 0 dX9_likes_59 rfl ?_
        obtain ⟨hg, h⟩ := x_gd_some h
        refine x_idiv C dX9_likes_61 (x_ne0 hg) ?_
        obtain ⟨rfl, rfl⟩ := x_ret h
        exact x_iret C dX9_likes_62
      · replace h := x_itn hc h
        refine x_iload_n C 1 dX9_likes_46 rfl rfl ?_
        refine x_goto C 59 dX9_likes_47 rfl ?_
        refine x_iload C 0 dX9_likes_59 rfl ?_
        obtain ⟨hg, h⟩ := x_gd_some h
        refine x_idiv C dX9_likes_61 (x_ne0 hg) ?_
        obtain ⟨rfl, rfl⟩ := x_ret h
        exact x_iret C dX9_likes_62
    · replace h := x_itp hc h
      refine x_bipush C (-2 : Int32) dX9_likes_24 (by decide) ?_
      obtain ⟨rfl, rfl⟩ := x_ret h
      exact x_iret C dX9_likes_26
  · replace h := x_itp hc h
    refine x_iconst C (-1 : Int32) dX9_likes_8 (by decide) ?_
    obtain ⟨rfl, rfl⟩ := x_ret h
    exact x_iret C dX9_likes_9
abbrev rm_X9_tell : Room := { frames := 1, cells := 0, slots := 0, locals := 22 }
set_option maxHeartbeats 4000000 in
set_option maxRecDepth 100000 in
theorem c_X9_tell (hG : x_OK TM G) {x1 : Int32} {x2 : Int32} {σ τ : x_Hp} {r : Int32} (h : F_X9_tell x1 x2 σ = some (r, τ)) : x_M l TM G yX9_tell cX9_tell 3 (some .int) rm_X9_tell [.ref (x_ad G 0), .int x1, .int x2] σ (some (.int r)) τ := by
  refine x_M.of hG (lv := [(0, .ref (x_ad G 0)), (1, .int x1), (2, .int x2)]) (by decide) (Nat.le_of_ble_eq_true rfl) rfl (fun p e s m below meth c C => ?_)
  rw [F_X9_tell] at h
  refine x_aload_n C 0 dX9_tell_0 rfl rfl ?_
  refine x_getI C (k := 68) kM_0 (by decide) rfl x_in9 (by decide) (by decide) rfl rfl wd_1276 dX9_tell_1 ?_
  refine x_bipush C (20 : Int32) dX9_tell_4 (by decide) ?_
  refine x_icmp_eq C 29 dX9_tell_6 rfl (fun hc => ?_) (fun hc => ?_)
  · replace h := x_itp hc h
    refine x_iconst C (-1 : Int32) dX9_tell_29 (by decide) ?_
    obtain ⟨rfl, rfl⟩ := x_ret h
    exact x_iret C dX9_tell_30
  · replace h := x_itn hc h
    refine x_iload_n C 1 dX9_tell_9 rfl rfl ?_
    refine x_iconst C (0 : Int32) dX9_tell_10 (by decide) ?_
    refine x_bipush C (59 : Int32) dX9_tell_11 (by decide) ?_
    obtain ⟨v1, σ1, hc1, h⟩ := x_b_some h
    refine x_callS C (n := 3) (c_X9_in hG hc1) wd_1531 wd_1532 wd_111 wd_1533 (by decide +kernel) rfl ⟨Nat.le_of_ble_eq_true rfl, Nat.le_of_ble_eq_true rfl⟩ ⟨rfl, rfl⟩ rfl (Nat.le_of_ble_eq_true rfl) dX9_tell_13 ?_
    refine x_if_eq C 29 dX9_tell_16 rfl (fun hc => ?_) (fun hc => ?_)
    · replace h := x_itp hc h
      refine x_iconst C (-1 : Int32) dX9_tell_29 (by decide) ?_
      obtain ⟨rfl, rfl⟩ := x_ret h
      exact x_iret C dX9_tell_30
    · replace h := x_itn hc h
      refine x_iload_n C 2 dX9_tell_19 rfl rfl ?_
      refine x_iconst C (0 : Int32) dX9_tell_20 (by decide) ?_
      refine x_bipush C (99 : Int32) dX9_tell_21 (by decide) ?_
      obtain ⟨v2, σ2, hc2, h⟩ := x_b_some h
      refine x_callS C (n := 3) (c_X9_in hG hc2) wd_1531 wd_1532 wd_111 wd_1533 (by decide +kernel) rfl ⟨Nat.le_of_ble_eq_true rfl, Nat.le_of_ble_eq_true rfl⟩ ⟨rfl, rfl⟩ rfl (Nat.le_of_ble_eq_true rfl) dX9_tell_23 ?_
      refine x_if_ne C 31 dX9_tell_26 rfl (fun hc => ?_) (fun hc => ?_)
      · replace h := x_itn hc h
        refine x_aload_n C 0 dX9_tell_31 rfl rfl ?_
        refine x_getRq C (k := 69) kM_0 (by decide) rfl x_in9 (by decide) (by decide) rfl rfl wd_1277 rfM_0_69 dX9_tell_32 ?_
        refine x_aload_n C 0 dX9_tell_35 rfl rfl ?_
        refine x_getI C (k := 68) kM_0 (by decide) rfl x_in9 (by decide) (by decide) rfl rfl wd_1276 dX9_tell_36 ?_
        refine x_iload_n C 1 dX9_tell_39 rfl rfl ?_
        obtain ⟨hi3, h⟩ := x_gd_some h
        refine x_iast C kM_41 (x_inl lnM_41 hi3) dX9_tell_40 (x_gen h fun σ4 h => ?_)
        refine x_aload_n C 0 dX9_tell_41 rfl rfl ?_
        refine x_getRq C (k := 70) kM_0 (by decide) rfl x_in9 (by decide) (by decide) rfl rfl wd_1278 rfM_0_70 dX9_tell_42 ?_
        refine x_aload_n C 0 dX9_tell_45 rfl rfl ?_
        refine x_getI C (k := 68) kM_0 (by decide) rfl x_in9 (by decide) (by decide) rfl rfl wd_1276 dX9_tell_46 ?_
        refine x_iload_n C 2 dX9_tell_49 rfl rfl ?_
        obtain ⟨hi5, h⟩ := x_gd_some h
        refine x_iast C kM_42 (x_inl lnM_42 hi5) dX9_tell_50 (x_gen h fun σ6 h => ?_)
        refine x_aload_n C 0 dX9_tell_51 rfl rfl ?_
        refine x_dup C dX9_tell_52 rfl ?_
        refine x_getI C (k := 68) kM_0 (by decide) rfl x_in9 (by decide) (by decide) rfl rfl wd_1276 dX9_tell_53 ?_
        refine x_iconst C (1 : Int32) dX9_tell_56 (by decide) ?_
        refine x_iadd C dX9_tell_57 ?_
        refine x_putI C (k := 68) tyX9 kM_0 (by decide) rfl x_in9 tyX9_ok nmX9 (by decide) (by decide) rfl rfl wd_1276 rfl (tyX9_ok 68 (by decide)) rfl rfl dX9_tell_58 (x_gen h fun σ7 h => ?_)
        refine x_aload_n C 0 dX9_tell_61 rfl rfl ?_
        refine x_getI C (k := 68) kM_0 (by decide) rfl x_in9 (by decide) (by decide) rfl rfl wd_1276 dX9_tell_62 ?_
        refine x_iconst C (1 : Int32) dX9_tell_65 (by decide) ?_
        refine x_isub C dX9_tell_66 ?_
        obtain ⟨rfl, rfl⟩ := x_ret h
        exact x_iret C dX9_tell_67
      · replace h := x_itp hc h
        refine x_iconst C (-1 : Int32) dX9_tell_29 (by decide) ?_
        obtain ⟨rfl, rfl⟩ := x_ret h
        exact x_iret C dX9_tell_30
abbrev rm_X9_forget : Room := { frames := 0, cells := 0, slots := 0, locals := 0 }
set_option maxHeartbeats 4000000 in
set_option maxRecDepth 100000 in
theorem c_X9_forget (hG : x_OK TM G) {σ τ : x_Hp} {r : Int32} (h : F_X9_forget σ = some (r, τ)) : x_M l TM G yX9_forget cX9_forget 2 (some .int) rm_X9_forget [.ref (x_ad G 0)] σ (some (.int r)) τ := by
  refine x_M.of hG (lv := [(0, .ref (x_ad G 0))]) (by decide) (Nat.le_of_ble_eq_true rfl) rfl (fun p e s m below meth c C => ?_)
  rw [F_X9_forget] at h
  refine x_aload_n C 0 dX9_forget_0 rfl rfl ?_
  refine x_getI C (k := 68) kM_0 (by decide) rfl x_in9 (by decide) (by decide) rfl rfl wd_1276 dX9_forget_1 ?_
  refine x_istore_n C [(1, .int (σ.1 0 68)), (0, .ref (x_ad G 0))] dX9_forget_4 rfl (by decide) rfl ?_
  refine x_aload_n C 1 dX9_forget_5 rfl rfl ?_
  refine x_iconst C (0 : Int32) dX9_forget_6 (by decide) ?_
  refine x_putI C (k := 68) tyX9 kM_0 (by decide) rfl x_in9 tyX9_ok nmX9 (by decide) (by decide) rfl rfl wd_1276 rfl (tyX9_ok 68 (by decide)) rfl rfl dX9_forget_7 (x_gen h fun σ1 h => ?_)
  refine x_iload_n C 0 dX9_forget_10 rfl rfl ?_
  obtain ⟨rfl, rfl⟩ := x_ret h
  exact x_iret C dX9_forget_11
abbrev rm_X9_isSo : Room := { frames := 5, cells := 0, slots := 0, locals := 119 }
set_option maxHeartbeats 4000000 in
set_option maxRecDepth 100000 in
theorem w_X9_isSo_100 {r : Int32} {τ : x_Hp} (C : x_C p s m args meth c cX9_isSo 6 (some .boolean) yX9_isSo.cls TM G) {k50 : Int32 → Int32 → Int32 → x_Hp → Option (Int32 × x_Hp)} (hk50 : ∀ (x2 : Int32) (x3 : Int32) (x4 : Int32) (σ : x_Hp) (h : k50 x2 x3 x4 σ = some (r, τ)), x_W p l e rm_X9_isSo s m args below meth c (MQ below (x_Q TM G (some (.int r)) τ) args s 0 0 (x_A TM G)) TM G 6 50 [(0, .ref (x_ad G 0)), (2, .int x2), (3, .int x3), (4, .int x4)] [] σ) {k63 : Int32 → Int32 → Int32 → Int32 → x_Hp → Option (Int32 × x_Hp)} (hk63 : ∀ (x2 : Int32) (x3 : Int32) (x4 : Int32) (x5 : Int32) (σ : x_Hp) (h : k63 x2 x3 x4 x5 σ = some (r, τ)), x_W p l e rm_X9_isSo s m args below meth c (MQ below (x_Q TM G (some (.int r)) τ) args s 0 0 (x_A TM G)) TM G 6 63 [(0, .ref (x_ad G 0)), (2, .int x2), (3, .int x3), (4, .int x4), (5, .int x5)] [] σ) (x2 : Int32) (x3 : Int32) (x4 : Int32) (x5 : Int32) (σ : x_Hp) (h : F_X9_isSo_100 k50 k63 x2 x3 x4 x5 σ = some (r, τ)) : x_W p l e rm_X9_isSo s m args below meth c (MQ below (x_Q TM G (some (.int r)) τ) args s 0 0 (x_A TM G)) TM G 6 100 [(0, .ref (x_ad G 0)), (2, .int x2), (3, .int x3), (4, .int x4), (5, .int x5)] [] σ := by
  have hG : x_OK TM G := C.2.2.2.2.2.2.2.2.1
  rw [F_X9_isSo_100] at h
  refine x_iinc C 4 (x5 + (1 : Int32)) [(5, .int (x5 + (1 : Int32))), (0, .ref (x_ad G 0)), (2, .int x2), (3, .int x3), (4, .int x4)] dX9_isSo_100 rfl rfl (by decide) rfl ?_
  refine x_goto C 63 dX9_isSo_103 rfl ?_
  exact x_sub [1, 2, 3, 4, 0] rfl (hk63 x2 x3 x4 (x5 + (1 : Int32)) σ h)
set_option maxHeartbeats 4000000 in
set_option maxRecDepth 100000 in
theorem w_X9_isSo_63 {r : Int32} {τ : x_Hp} (C : x_C p s m args meth c cX9_isSo 6 (some .boolean) yX9_isSo.cls TM G) {k50 : Int32 → Int32 → Int32 → x_Hp → Option (Int32 × x_Hp)} (hk50 : ∀ (x2 : Int32) (x3 : Int32) (x4 : Int32) (σ : x_Hp) (h : k50 x2 x3 x4 σ = some (r, τ)), x_W p l e rm_X9_isSo s m args below meth c (MQ below (x_Q TM G (some (.int r)) τ) args s 0 0 (x_A TM G)) TM G 6 50 [(0, .ref (x_ad G 0)), (2, .int x2), (3, .int x3), (4, .int x4)] [] σ) : ∀ (n : Nat) (x2 : Int32) (x3 : Int32) (x4 : Int32) (x5 : Int32) (σ : x_Hp) (h : F_X9_isSo_63 k50 n x2 x3 x4 x5 σ = some (r, τ)), x_W p l e rm_X9_isSo s m args below meth c (MQ below (x_Q TM G (some (.int r)) τ) args s 0 0 (x_A TM G)) TM G 6 63 [(0, .ref (x_ad G 0)), (2, .int x2), (3, .int x3), (4, .int x4), (5, .int x5)] [] σ := by
  intro n
  induction n with
  | zero => intro x2 x3 x4 x5 σ  h; cases h
  | succ n ih =>
    intro x2 x3 x4 x5 σ  h
    have hG : x_OK TM G := C.2.2.2.2.2.2.2.2.1
    rw [F_X9_isSo_63] at h
    refine x_iload C 4 dX9_isSo_63 rfl ?_
    refine x_iload_n C 1 dX9_isSo_65 rfl rfl ?_
    refine x_icmp_ge C 106 dX9_isSo_66 rfl (fun hc => ?_) (fun hc => ?_)
    · replace h := x_itp hc h
      refine x_iinc C 3 (x4 + (1 : Int32)) [(4, .int (x4 + (1 : Int32))), (0, .ref (x_ad G 0)), (2, .int x2), (3, .int x3), (5, .int x5)] dX9_isSo_106 rfl rfl (by decide) rfl ?_
      refine x_goto C 50 dX9_isSo_109 rfl ?_
      exact x_sub [1, 2, 3, 0] rfl (hk50 x2 x3 (x4 + (1 : Int32)) σ h)
    · replace h := x_itn hc h
      refine x_aload_n C 0 dX9_isSo_69 rfl rfl ?_
      refine x_getRq C (k := 69) kM_0 (by decide) rfl x_in9 (by decide) (by decide) rfl rfl wd_1277 rfM_0_69 dX9_isSo_70 ?_
      refine x_iload C 4 dX9_isSo_73 rfl ?_
      obtain ⟨hi6, h⟩ := x_gd_some h
      refine x_iald C kM_41 (x_inl lnM_41 hi6) dX9_isSo_75 ?_
      refine x_iload C 3 dX9_isSo_76 rfl ?_
      refine x_icmp_ne C 100 dX9_isSo_78 rfl (fun hc => ?_) (fun hc => ?_)
      · replace h := x_itn hc h
        exact x_sub [0, 1, 2, 3, 4] rfl (w_X9_isSo_100 C hk50 ih x2 x3 x4 x5 σ h)
      · replace h := x_itp hc h
        refine x_aload_n C 0 dX9_isSo_81 rfl rfl ?_
        refine x_getRq C (k := 49) kM_0 (by decide) rfl x_in9 (by decide) (by decide) rfl rfl wd_1257 rfM_0_49 dX9_isSo_82 ?_
        refine x_bipush C (6 : Int32) dX9_isSo_85 (by decide) ?_
        refine x_ialdJ C kM_32 (x_inl lnM_32 (by decide)) (j := 6) (by decide) dX9_isSo_87 ?_
        refine x_aload_n C 0 dX9_isSo_88 rfl rfl ?_
        refine x_getRq C (k := 70) kM_0 (by decide) rfl x_in9 (by decide) (by decide) rfl rfl wd_1278 rfM_0_70 dX9_isSo_89 ?_
        refine x_iload C 4 dX9_isSo_92 rfl ?_
        obtain ⟨hi7, h⟩ := x_gd_some h
        refine x_iald C kM_42 (x_inl lnM_42 hi7) dX9_isSo_94 ?_
        refine x_icmp_eq C 100 dX9_isSo_95 rfl (fun hc => ?_) (fun hc => ?_)
        · replace h := x_itp hc h
          exact x_sub [0, 1, 2, 3, 4] rfl (w_X9_isSo_100 C hk50 ih x2 x3 x4 x5 σ h)
        · replace h := x_itn hc h
          refine x_iconst C (0 : Int32) dX9_isSo_98 (by decide) ?_
          obtain ⟨rfl, rfl⟩ := x_ret h
          exact x_zret C rfl dX9_isSo_99
set_option maxHeartbeats 4000000 in
set_option maxRecDepth 100000 in
theorem w_X9_isSo_50 {r : Int32} {τ : x_Hp} (C : x_C p s m args meth c cX9_isSo 6 (some .boolean) yX9_isSo.cls TM G) : ∀ (n : Nat) (x2 : Int32) (x3 : Int32) (x4 : Int32) (σ : x_Hp) (h : F_X9_isSo_50 n x2 x3 x4 σ = some (r, τ)), x_W p l e rm_X9_isSo s m args below meth c (MQ below (x_Q TM G (some (.int r)) τ) args s 0 0 (x_A TM G)) TM G 6 50 [(0, .ref (x_ad G 0)), (2, .int x2), (3, .int x3), (4, .int x4)] [] σ := by
  intro n
  induction n with
  | zero => intro x2 x3 x4 σ  h; cases h
  | succ n ih =>
    intro x2 x3 x4 σ  h
    have hG : x_OK TM G := C.2.2.2.2.2.2.2.2.1
    rw [F_X9_isSo_50] at h
    refine x_iload C 3 dX9_isSo_50 rfl ?_
    refine x_iload_n C 2 dX9_isSo_52 rfl rfl ?_
    refine x_icmp_gt C 112 dX9_isSo_53 rfl (fun hc => ?_) (fun hc => ?_)
    · replace h := x_itp hc h
      refine x_iconst C (1 : Int32) dX9_isSo_112 (by decide) ?_
      obtain ⟨rfl, rfl⟩ := x_ret h
      exact x_zret C rfl dX9_isSo_113
    · replace h := x_itn hc h
      refine x_aload_n C 0 dX9_isSo_56 rfl rfl ?_
      obtain ⟨v5, σ5, hc5, h⟩ := x_b_some h
      refine x_callV C (n := 0) (c_X9_minuteGoes hG hc5) kM_0 (by decide) rfl wd_1573 wd_1575 wd_75 wd_111 wd_1576 (by decide +kernel) rfl ⟨Nat.le_of_ble_eq_true rfl, Nat.le_of_ble_eq_true rfl⟩ ⟨rfl, rfl⟩ rfl (Nat.le_of_ble_eq_true rfl) dX9_isSo_57 ?_
      refine x_iconst C (0 : Int32) dX9_isSo_60 (by decide) ?_
      refine x_istore C [(5, .int (0 : Int32)), (0, .ref (x_ad G 0)), (2, .int x2), (3, .int x3), (4, .int x4)] dX9_isSo_61 (by decide) rfl ?_
      exact x_sub [1, 2, 3, 4, 0] rfl (w_X9_isSo_63 C ih x_fuel x2 x3 x4 (0 : Int32) σ5 h)
set_option maxHeartbeats 4000000 in
set_option maxRecDepth 100000 in
theorem w_X9_isSo_41 {r : Int32} {τ : x_Hp} (C : x_C p s m args meth c cX9_isSo 6 (some .boolean) yX9_isSo.cls TM G) {k16 : Int32 → Int32 → Int32 → x_Hp → Option (Int32 × x_Hp)} (hk16 : ∀ (x2 : Int32) (x3 : Int32) (x4 : Int32) (σ : x_Hp) (h : k16 x2 x3 x4 σ = some (r, τ)), x_W p l e rm_X9_isSo s m args below meth c (MQ below (x_Q TM G (some (.int r)) τ) args s 0 0 (x_A TM G)) TM G 6 16 [(0, .ref (x_ad G 0)), (2, .int x2), (3, .int x3), (4, .int x4)] [] σ) (x2 : Int32) (x3 : Int32) (x4 : Int32) (σ : x_Hp) (h : F_X9_isSo_41 k16 x2 x3 x4 σ = some (r, τ)) : x_W p l e rm_X9_isSo s m args below meth c (MQ below (x_Q TM G (some (.int r)) τ) args s 0 0 (x_A TM G)) TM G 6 41 [(0, .ref (x_ad G 0)), (2, .int x2), (3, .int x3), (4, .int x4)] [] σ := by
  have hG : x_OK TM G := C.2.2.2.2.2.2.2.2.1
  rw [F_X9_isSo_41] at h
  refine x_iinc C 3 (x4 + (1 : Int32)) [(4, .int (x4 + (1 : Int32))), (0, .ref (x_ad G 0)), (2, .int x2), (3, .int x3)] dX9_isSo_41 rfl rfl (by decide) rfl ?_
  refine x_goto C 16 dX9_isSo_44 rfl ?_
  exact x_sub [1, 2, 3, 0] rfl (hk16 x2 x3 (x4 + (1 : Int32)) σ h)
set_option maxHeartbeats 4000000 in
set_option maxRecDepth 100000 in
theorem w_X9_isSo_16 {r : Int32} {τ : x_Hp} (C : x_C p s m args meth c cX9_isSo 6 (some .boolean) yX9_isSo.cls TM G) : ∀ (n : Nat) (x2 : Int32) (x3 : Int32) (x4 : Int32) (σ : x_Hp) (h : F_X9_isSo_16 n x2 x3 x4 σ = some (r, τ)), x_W p l e rm_X9_isSo s m args below meth c (MQ below (x_Q TM G (some (.int r)) τ) args s 0 0 (x_A TM G)) TM G 6 16 [(0, .ref (x_ad G 0)), (2, .int x2), (3, .int x3), (4, .int x4)] [] σ := by
  intro n
  induction n with
  | zero => intro x2 x3 x4 σ  h; cases h
  | succ n ih =>
    intro x2 x3 x4 σ  h
    have hG : x_OK TM G := C.2.2.2.2.2.2.2.2.1
    rw [F_X9_isSo_16] at h
    refine x_iload C 3 dX9_isSo_16 rfl ?_
    refine x_iload_n C 1 dX9_isSo_18 rfl rfl ?_
    refine x_icmp_ge C 47 dX9_isSo_19 rfl (fun hc => ?_) (fun hc => ?_)
    · replace h := x_itp hc h
      refine x_iconst C (0 : Int32) dX9_isSo_47 (by decide) ?_
      refine x_istore C [(4, .int (0 : Int32)), (0, .ref (x_ad G 0)), (2, .int x2), (3, .int x3)] dX9_isSo_48 (by decide) rfl ?_
      exact x_sub [1, 2, 3, 0] rfl (w_X9_isSo_50 C x_fuel x2 x3 (0 : Int32) σ h)
    · replace h := x_itn hc h
      refine x_aload_n C 0 dX9_isSo_22 rfl rfl ?_
      refine x_getRq C (k := 69) kM_0 (by decide) rfl x_in9 (by decide) (by decide) rfl rfl wd_1277 rfM_0_69 dX9_isSo_23 ?_
      refine x_iload C 3 dX9_isSo_26 rfl ?_
      obtain ⟨hi3, h⟩ := x_gd_some h
      refine x_iald C kM_41 (x_inl lnM_41 hi3) dX9_isSo_28 ?_
      refine x_iload_n C 2 dX9_isSo_29 rfl rfl ?_
      refine x_icmp_le C 41 dX9_isSo_30 rfl (fun hc => ?_) (fun hc => ?_)
      · replace h := x_itp hc h
        exact x_sub [0, 1, 2, 3] rfl (w_X9_isSo_41 C ih x2 x3 x4 σ h)
      · replace h := x_itn hc h
        refine x_aload_n C 0 dX9_isSo_33 rfl rfl ?_
        refine x_getRq C (k := 69) kM_0 (by decide) rfl x_in9 (by decide) (by decide) rfl rfl wd_1277 rfM_0_69 dX9_isSo_34 ?_
        refine x_iload C 3 dX9_isSo_37 rfl ?_
        obtain ⟨hi4, h⟩ := x_gd_some h
        refine x_iald C kM_41 (x_inl lnM_41 hi4) dX9_isSo_39 ?_
        refine x_istore_n C [(3, .int (σ.1 41 (x_ix x4))), (0, .ref (x_ad G 0)), (2, .int x2), (4, .int x4)] dX9_isSo_40 rfl (by decide) rfl ?_
        exact x_sub [1, 2, 0, 3] rfl (w_X9_isSo_41 C ih x2 (σ.1 41 (x_ix x4)) x4 σ h)
set_option maxHeartbeats 4000000 in
set_option maxRecDepth 100000 in
theorem c_X9_isSo (hG : x_OK TM G) {x1 : Int32} {x2 : Int32} {σ τ : x_Hp} {r : Int32} (h : F_X9_isSo x1 x2 σ = some (r, τ)) : x_M l TM G yX9_isSo cX9_isSo 6 (some .boolean) rm_X9_isSo [.ref (x_ad G 0), .int x1, .int x2] σ (some (.int r)) τ := by
  refine x_M.of hG (lv := [(0, .ref (x_ad G 0)), (1, .int x1), (2, .int x2)]) (by decide) (Nat.le_of_ble_eq_true rfl) rfl (fun p e s m below meth c C => ?_)
  rw [F_X9_isSo] at h
  refine x_aload_n C 0 dX9_isSo_0 rfl rfl ?_
  obtain ⟨v1, σ1, hc1, h⟩ := x_b_some h
  refine x_callV C (n := 0) (c_X9_begins hG hc1) kM_0 (by decide) rfl wd_1197 wd_1199 wd_47 wd_111 wd_1200 (by decide +kernel) rfl ⟨Nat.le_of_ble_eq_true rfl, Nat.le_of_ble_eq_true rfl⟩ ⟨rfl, rfl⟩ rfl (Nat.le_of_ble_eq_true rfl) dX9_isSo_1 ?_
  refine x_aload_n C 0 dX9_isSo_4 rfl rfl ?_
  refine x_getRq C (k := 49) kM_0 (by decide) rfl x_in9 (by decide) (by decide) rfl rfl wd_1257 rfM_0_49 dX9_isSo_5 ?_
  refine x_iconst C (0 : Int32) dX9_isSo_8 (by decide) ?_
  refine x_iload_n C 1 dX9_isSo_9 rfl rfl ?_
  refine x_iastJ C kM_32 (x_inl lnM_32 (by decide)) (j := 0) (by decide) dX9_isSo_10 (x_gen h fun σ2 h => ?_)
  refine x_iconst C (-1 : Int32) dX9_isSo_11 (by decide) ?_
  refine x_istore_n C [(3, .int (-1 : Int32)), (0, .ref (x_ad G 0)), (1, .int x1), (2, .int x2)] dX9_isSo_12 rfl (by decide) rfl ?_
  refine x_iconst C (0 : Int32) dX9_isSo_13 (by decide) ?_
  refine x_istore C [(4, .int (0 : Int32)), (3, .int (-1 : Int32)), (0, .ref (x_ad G 0)), (1, .int x1), (2, .int x2)] dX9_isSo_14 (by decide) rfl ?_
  exact x_sub [2, 4, 1, 0] rfl (w_X9_isSo_16 C x_fuel x2 (-1 : Int32) (0 : Int32) σ2 h)
abbrev rm_X9_fed : Room := { frames := 6, cells := 0, slots := 0, locals := 144 }
set_option maxHeartbeats 4000000 in
set_option maxRecDepth 100000 in
theorem w_X9_fed_55 {r : Int32} {τ : x_Hp} (C : x_C p s m args meth c cX9_fed 5 (some .int) yX9_fed.cls TM G) {k24 : Int32 → Int32 → Int32 → Int32 → x_Hp → Option (Int32 × x_Hp)} (hk24 : ∀ (x1 : Int32) (x2 : Int32) (x3 : Int32) (x4 : Int32) (σ : x_Hp) (h : k24 x1 x2 x3 x4 σ = some (r, τ)), x_W p l e rm_X9_fed s m args below meth c (MQ below (x_Q TM G (some (.int r)) τ) args s 0 0 (x_A TM G)) TM G 5 24 [(0, .ref (x_ad G 0)), (1, .int x1), (2, .int x2), (3, .int x3), (4, .int x4)] [] σ) (x1 : Int32) (x2 : Int32) (x3 : Int32) (x4 : Int32) (σ : x_Hp) (h : F_X9_fed_55 k24 x1 x2 x3 x4 σ = some (r, τ)) : x_W p l e rm_X9_fed s m args below meth c (MQ below (x_Q TM G (some (.int r)) τ) args s 0 0 (x_A TM G)) TM G 5 55 [(0, .ref (x_ad G 0)), (1, .int x1), (2, .int x2), (3, .int x3), (4, .int x4)] [] σ := by
  have hG : x_OK TM G := C.2.2.2.2.2.2.2.2.1
  rw [F_X9_fed_55] at h
  refine x_iinc C 4 (x4 + (1 : Int32)) [(4, .int (x4 + (1 : Int32))), (0, .ref (x_ad G 0)), (1, .int x1), (2, .int x2), (3, .int x3)] dX9_fed_55 rfl rfl (by decide) rfl ?_
  refine x_goto C 24 dX9_fed_58 rfl ?_
  exact x_sub [1, 2, 3, 4, 0] rfl (hk24 x1 x2 x3 (x4 + (1 : Int32)) σ h)
set_option maxHeartbeats 4000000 in
set_option maxRecDepth 100000 in
theorem w_X9_fed_24 {r : Int32} {τ : x_Hp} (C : x_C p s m args meth c cX9_fed 5 (some .int) yX9_fed.cls TM G) : ∀ (n : Nat) (x1 : Int32) (x2 : Int32) (x3 : Int32) (x4 : Int32) (σ : x_Hp) (h : F_X9_fed_24 n x1 x2 x3 x4 σ = some (r, τ)), x_W p l e rm_X9_fed s m args below meth c (MQ below (x_Q TM G (some (.int r)) τ) args s 0 0 (x_A TM G)) TM G 5 24 [(0, .ref (x_ad G 0)), (1, .int x1), (2, .int x2), (3, .int x3), (4, .int x4)] [] σ := by
  intro n
  induction n with
  | zero => intro x1 x2 x3 x4 σ  h; cases h
  | succ n ih =>
    intro x1 x2 x3 x4 σ  h
    have hG : x_OK TM G := C.2.2.2.2.2.2.2.2.1
    rw [F_X9_fed_24] at h
    refine x_iload C 4 dX9_fed_24 rfl ?_
    refine x_bipush C (100 : Int32) dX9_fed_26 (by decide) ?_
    refine x_icmp_ge C 61 dX9_fed_28 rfl (fun hc => ?_) (fun hc => ?_)
    · replace h := x_itp hc h
      refine x_iload_n C 2 dX9_fed_61 rfl rfl ?_
      refine x_iconst C (-1 : Int32) dX9_fed_62 (by decide) ?_
      refine x_icmp_ne C 70 dX9_fed_63 rfl (fun hc => ?_) (fun hc => ?_)
      · replace h := x_itn hc h
        refine x_iconst C (-1 : Int32) dX9_fed_70 (by decide) ?_
        obtain ⟨rfl, rfl⟩ := x_ret h
        exact x_iret C dX9_fed_71
      · replace h := x_itp hc h
        refine x_iload_n C 3 dX9_fed_66 rfl rfl ?_
        refine x_goto C 71 dX9_fed_67 rfl ?_
        obtain ⟨rfl, rfl⟩ := x_ret h
        exact x_iret C dX9_fed_71
    · replace h := x_itn hc h
      refine x_aload_n C 0 dX9_fed_31 rfl rfl ?_
      refine x_iload C 4 dX9_fed_32 rfl ?_
      refine x_iload_n C 1 dX9_fed_34 rfl rfl ?_
      obtain ⟨v2, σ2, hc2, h⟩ := x_b_some h
      refine x_callV C (n := 2) (c_X9_isSo hG hc2) kM_0 (by decide) rfl wd_1804 wd_1806 wd_100 wd_111 wd_1807 (by decide +kernel) rfl ⟨Nat.le_of_ble_eq_true rfl, Nat.le_of_ble_eq_true rfl⟩ ⟨rfl, rfl⟩ rfl (Nat.le_of_ble_eq_true rfl) dX9_fed_35 ?_
      refine x_if_ne C 44 dX9_fed_38 rfl (fun hc => ?_) (fun hc => ?_)
      · replace h := x_itn hc h
        refine x_iload_n C 3 dX9_fed_44 rfl rfl ?_
        refine x_iload_n C 2 dX9_fed_45 rfl rfl ?_
        refine x_icmp_ne C 52 dX9_fed_46 rfl (fun hc => ?_) (fun hc => ?_)
        · replace h := x_itn hc h
          refine x_iinc C 3 (x3 + (1 : Int32)) [(3, .int (x3 + (1 : Int32))), (0, .ref (x_ad G 0)), (1, .int x1), (2, .int x2), (4, .int x4)] dX9_fed_52 rfl rfl (by decide) rfl ?_
          exact x_sub [1, 2, 3, 0, 4] rfl (w_X9_fed_55 C ih x1 x2 (x3 + (1 : Int32)) x4 σ2 h)
        · replace h := x_itp hc h
          refine x_iload C 4 dX9_fed_49 rfl ?_
          obtain ⟨rfl, rfl⟩ := x_ret h
          exact x_iret C dX9_fed_51
      · replace h := x_itp hc h
        refine x_goto C 55 dX9_fed_41 rfl ?_
        exact x_sub [0, 1, 2, 3, 4] rfl (w_X9_fed_55 C ih x1 x2 x3 x4 σ2 h)
set_option maxHeartbeats 4000000 in
set_option maxRecDepth 100000 in
theorem c_X9_fed (hG : x_OK TM G) {x1 : Int32} {x2 : Int32} {σ τ : x_Hp} {r : Int32} (h : F_X9_fed x1 x2 σ = some (r, τ)) : x_M l TM G yX9_fed cX9_fed 5 (some .int) rm_X9_fed [.ref (x_ad G 0), .int x1, .int x2] σ (some (.int r)) τ := by
  refine x_M.of hG (lv := [(0, .ref (x_ad G 0)), (1, .int x1), (2, .int x2)]) (by decide) (Nat.le_of_ble_eq_true rfl) rfl (fun p e s m below meth c C => ?_)
  rw [F_X9_fed] at h
  refine x_iload_n C 1 dX9_fed_0 rfl rfl ?_
  refine x_iconst C (0 : Int32) dX9_fed_1 (by decide) ?_
  refine x_aload_n C 0 dX9_fed_2 rfl rfl ?_
  refine x_getI C (k := 68) kM_0 (by decide) rfl x_in9 (by decide) (by decide) rfl rfl wd_1276 dX9_fed_3 ?_
  obtain ⟨v1, σ1, hc1, h⟩ := x_b_some h
  refine x_callS C (n := 3) (c_X9_in hG hc1) wd_1531 wd_1532 wd_111 wd_1533 (by decide +kernel) rfl ⟨Nat.le_of_ble_eq_true rfl, Nat.le_of_ble_eq_true rfl⟩ ⟨rfl, rfl⟩ rfl (Nat.le_of_ble_eq_true rfl) dX9_fed_6 ?_
  refine x_if_eq C 17 dX9_fed_9 rfl (fun hc => ?_) (fun hc => ?_)
  · replace h := x_itp hc h
    refine x_iconst C (-1 : Int32) dX9_fed_17 (by decide) ?_
    obtain ⟨rfl, rfl⟩ := x_ret h
    exact x_iret C dX9_fed_18
  · replace h := x_itn hc h
    refine x_iload_n C 2 dX9_fed_12 rfl rfl ?_
    refine x_iconst C (-1 : Int32) dX9_fed_13 (by decide) ?_
    refine x_icmp_ge C 19 dX9_fed_14 rfl (fun hc => ?_) (fun hc => ?_)
    · replace h := x_itp hc h
      refine x_iconst C (0 : Int32) dX9_fed_19 (by decide) ?_
      refine x_istore_n C [(3, .int (0 : Int32)), (0, .ref (x_ad G 0)), (1, .int x1), (2, .int x2)] dX9_fed_20 rfl (by decide) rfl ?_
      refine x_iconst C (0 : Int32) dX9_fed_21 (by decide) ?_
      refine x_istore C [(4, .int (0 : Int32)), (3, .int (0 : Int32)), (0, .ref (x_ad G 0)), (1, .int x1), (2, .int x2)] dX9_fed_22 (by decide) rfl ?_
      exact x_sub [2, 3, 4, 1, 0] rfl (w_X9_fed_24 C x_fuel x1 x2 (0 : Int32) (0 : Int32) σ1 h)
    · replace h := x_itn hc h
      refine x_iconst C (-1 : Int32) dX9_fed_17 (by decide) ?_
      obtain ⟨rfl, rfl⟩ := x_ret h
      exact x_iret C dX9_fed_18
abbrev rm_X9_hold : Room := { frames := 1, cells := 0, slots := 0, locals := 22 }
set_option maxHeartbeats 4000000 in
set_option maxRecDepth 100000 in
theorem w_X9_hold_20 {r : Int32} {τ : x_Hp} (C : x_C p s m args meth c cX9_hold 3 (some .boolean) yX9_hold.cls TM G) : ∀ (n : Nat) (x1 : Int32) (x2 : Int32) (σ : x_Hp) (h : F_X9_hold_20 n x1 x2 σ = some (r, τ)), x_W p l e rm_X9_hold s m args below meth c (MQ below (x_Q TM G (some (.int r)) τ) args s 0 0 (x_A TM G)) TM G 3 20 [(0, .ref (x_ad G 0)), (1, .int x1), (2, .int x2)] [] σ := by
  intro n
  induction n with
  | zero => intro x1 x2 σ  h; cases h
  | succ n ih =>
    intro x1 x2 σ  h
    have hG : x_OK TM G := C.2.2.2.2.2.2.2.2.1
    rw [F_X9_hold_20] at h
    refine x_iload_n C 2 dX9_hold_20 rfl rfl ?_
    refine x_bipush C (60 : Int32) dX9_hold_21 (by decide) ?_
    refine x_icmp_ge C 49 dX9_hold_23 rfl (fun hc => ?_) (fun hc => ?_)
    · replace h := x_itp hc h
      refine x_iconst C (1 : Int32) dX9_hold_49 (by decide) ?_
      obtain ⟨rfl, rfl⟩ := x_ret h
      exact x_zret C rfl dX9_hold_50
    · replace h := x_itn hc h
      refine x_aload_n C 0 dX9_hold_26 rfl rfl ?_
      refine x_getRq C (k := 72) kM_0 (by decide) rfl x_in9 (by decide) (by decide) rfl rfl wd_1280 rfM_0_72 dX9_hold_27 ?_
      refine x_bipush C (60 : Int32) dX9_hold_30 (by decide) ?_
      refine x_iload_n C 1 dX9_hold_32 rfl rfl ?_
      refine x_imul C dX9_hold_33 ?_
      refine x_iload_n C 2 dX9_hold_34 rfl rfl ?_
      refine x_iadd C dX9_hold_35 ?_
      refine x_aload_n C 0 dX9_hold_36 rfl rfl ?_
      refine x_getRq C (k := 48) kM_0 (by decide) rfl x_in9 (by decide) (by decide) rfl rfl wd_1256 rfM_0_48 dX9_hold_37 ?_
      refine x_iload_n C 2 dX9_hold_40 rfl rfl ?_
      obtain ⟨hi4, h⟩ := x_gd_some h
      refine x_iald C kM_31 (x_inl lnM_31 hi4) dX9_hold_41 ?_
      obtain ⟨hi5, h⟩ := x_gd_some h
      refine x_iast C kM_44 (x_inl lnM_44 hi5) dX9_hold_42 (x_gen h fun σ6 h => ?_)
      refine x_iinc C 2 (x2 + (1 : Int32)) [(2, .int (x2 + (1 : Int32))), (0, .ref (x_ad G 0)), (1, .int x1)] dX9_hold_43 rfl rfl (by decide) rfl ?_
      refine x_goto C 20 dX9_hold_46 rfl ?_
      exact x_sub [1, 2, 0] rfl (ih x1 (x2 + (1 : Int32)) σ6 h)
set_option maxHeartbeats 4000000 in
set_option maxRecDepth 100000 in
theorem c_X9_hold (hG : x_OK TM G) {x1 : Int32} {σ τ : x_Hp} {r : Int32} (h : F_X9_hold x1 σ = some (r, τ)) : x_M l TM G yX9_hold cX9_hold 3 (some .boolean) rm_X9_hold [.ref (x_ad G 0), .int x1] σ (some (.int r)) τ := by
  refine x_M.of hG (lv := [(0, .ref (x_ad G 0)), (1, .int x1)]) (by decide) (Nat.le_of_ble_eq_true rfl) rfl (fun p e s m below meth c C => ?_)
  rw [F_X9_hold] at h
  refine x_iload_n C 1 dX9_hold_0 rfl rfl ?_
  refine x_iconst C (0 : Int32) dX9_hold_1 (by decide) ?_
  refine x_iconst C (2 : Int32) dX9_hold_2 (by decide) ?_
  obtain ⟨v1, σ1, hc1, h⟩ := x_b_some h
  refine x_callS C (n := 3) (c_X9_in hG hc1) wd_1531 wd_1532 wd_111 wd_1533 (by decide +kernel) rfl ⟨Nat.le_of_ble_eq_true rfl, Nat.le_of_ble_eq_true rfl⟩ ⟨rfl, rfl⟩ rfl (Nat.le_of_ble_eq_true rfl) dX9_hold_3 ?_
  refine x_if_ne C 11 dX9_hold_6 rfl (fun hc => ?_) (fun hc => ?_)
  · replace h := x_itn hc h
    refine x_aload_n C 0 dX9_hold_11 rfl rfl ?_
    refine x_getRq C (k := 71) kM_0 (by decide) rfl x_in9 (by decide) (by decide) rfl rfl wd_1279 rfM_0_71 dX9_hold_12 ?_
    refine x_iload_n C 1 dX9_hold_15 rfl rfl ?_
    refine x_iconst C (1 : Int32) dX9_hold_16 (by decide) ?_
    obtain ⟨hi2, h⟩ := x_gd_some h
    refine x_zast C kM_43 (x_inl lnM_43 hi2) dX9_hold_17 (x_gen h fun σ3 h => ?_)
    refine x_iconst C (0 : Int32) dX9_hold_18 (by decide) ?_
    refine x_istore_n C [(2, .int (0 : Int32)), (0, .ref (x_ad G 0)), (1, .int x1)] dX9_hold_19 rfl (by decide) rfl ?_
    exact x_sub [1, 2, 0] rfl (w_X9_hold_20 C x_fuel x1 (0 : Int32) σ3 h)
  · replace h := x_itp hc h
    refine x_iconst C (0 : Int32) dX9_hold_9 (by decide) ?_
    obtain ⟨rfl, rfl⟩ := x_ret h
    exact x_zret C rfl dX9_hold_10
abbrev rm_X9_restore : Room := { frames := 1, cells := 0, slots := 0, locals := 22 }
set_option maxHeartbeats 4000000 in
set_option maxRecDepth 100000 in
theorem w_X9_restore_22 {r : Int32} {τ : x_Hp} (C : x_C p s m args meth c cX9_restore 3 (some .boolean) yX9_restore.cls TM G) : ∀ (n : Nat) (x1 : Int32) (x2 : Int32) (σ : x_Hp) (h : F_X9_restore_22 n x1 x2 σ = some (r, τ)), x_W p l e rm_X9_restore s m args below meth c (MQ below (x_Q TM G (some (.int r)) τ) args s 0 0 (x_A TM G)) TM G 3 22 [(0, .ref (x_ad G 0)), (1, .int x1), (2, .int x2)] [] σ := by
  intro n
  induction n with
  | zero => intro x1 x2 σ  h; cases h
  | succ n ih =>
    intro x1 x2 σ  h
    have hG : x_OK TM G := C.2.2.2.2.2.2.2.2.1
    rw [F_X9_restore_22] at h
    refine x_iload_n C 2 dX9_restore_22 rfl rfl ?_
    refine x_bipush C (60 : Int32) dX9_restore_23 (by decide) ?_
    refine x_icmp_ge C 51 dX9_restore_25 rfl (fun hc => ?_) (fun hc => ?_)
    · replace h := x_itp hc h
      refine x_aload_n C 0 dX9_restore_51 rfl rfl ?_
      refine x_iconst C (0 : Int32) dX9_restore_52 (by decide) ?_
      refine x_putI C (k := 54) tyX9 kM_0 (by decide) rfl x_in9 tyX9_ok nmX9 (by decide) (by decide) rfl rfl wd_1262 rfl (tyX9_ok 54 (by decide)) rfl rfl dX9_restore_53 (x_gen h fun σ3 h => ?_)
      refine x_iconst C (1 : Int32) dX9_restore_56 (by decide) ?_
      obtain ⟨rfl, rfl⟩ := x_ret h
      exact x_zret C rfl dX9_restore_57
    · replace h := x_itn hc h
      refine x_aload_n C 0 dX9_restore_28 rfl rfl ?_
      refine x_getRq C (k := 48) kM_0 (by decide) rfl x_in9 (by decide) (by decide) rfl rfl wd_1256 rfM_0_48 dX9_restore_29 ?_
      refine x_iload_n C 2 dX9_restore_32 rfl rfl ?_
      refine x_aload_n C 0 dX9_restore_33 rfl rfl ?_
      refine x_getRq C (k := 72) kM_0 (by decide) rfl x_in9 (by decide) (by decide) rfl rfl wd_1280 rfM_0_72 dX9_restore_34 ?_
      refine x_bipush C (60 : Int32) dX9_restore_37 (by decide) ?_
      refine x_iload_n C 1 dX9_restore_39 rfl rfl ?_
      refine x_imul C dX9_restore_40 ?_
      refine x_iload_n C 2 dX9_restore_41 rfl rfl ?_
      refine x_iadd C dX9_restore_42 ?_
      obtain ⟨hi4, h⟩ := x_gd_some h
      refine x_iald C kM_44 (x_inl lnM_44 hi4) dX9_restore_43 ?_
      obtain ⟨hi5, h⟩ := x_gd_some h
      refine x_iast C kM_31 (x_inl lnM_31 hi5) dX9_restore_44 (x_gen h fun σ6 h => ?_)
      refine x_iinc C 2 (x2 + (1 : Int32)) [(2, .int (x2 + (1 : Int32))), (0, .ref (x_ad G 0)), (1, .int x1)] dX9_restore_45 rfl rfl (by decide) rfl ?_
      refine x_goto C 22 dX9_restore_48 rfl ?_
      exact x_sub [1, 2, 0] rfl (ih x1 (x2 + (1 : Int32)) σ6 h)
set_option maxHeartbeats 4000000 in
set_option maxRecDepth 100000 in
theorem c_X9_restore (hG : x_OK TM G) {x1 : Int32} {σ τ : x_Hp} {r : Int32} (h : F_X9_restore x1 σ = some (r, τ)) : x_M l TM G yX9_restore cX9_restore 3 (some .boolean) rm_X9_restore [.ref (x_ad G 0), .int x1] σ (some (.int r)) τ := by
  refine x_M.of hG (lv := [(0, .ref (x_ad G 0)), (1, .int x1)]) (by decide) (Nat.le_of_ble_eq_true rfl) rfl (fun p e s m below meth c C => ?_)
  rw [F_X9_restore] at h
  refine x_iload_n C 1 dX9_restore_0 rfl rfl ?_
  refine x_iconst C (0 : Int32) dX9_restore_1 (by decide) ?_
  refine x_iconst C (2 : Int32) dX9_restore_2 (by decide) ?_
  obtain ⟨v1, σ1, hc1, h⟩ := x_b_some h
  refine x_callS C (n := 3) (c_X9_in hG hc1) wd_1531 wd_1532 wd_111 wd_1533 (by decide +kernel) rfl ⟨Nat.le_of_ble_eq_true rfl, Nat.le_of_ble_eq_true rfl⟩ ⟨rfl, rfl⟩ rfl (Nat.le_of_ble_eq_true rfl) dX9_restore_3 ?_
  refine x_if_eq C 18 dX9_restore_6 rfl (fun hc => ?_) (fun hc => ?_)
  · replace h := x_itp hc h
    refine x_iconst C (0 : Int32) dX9_restore_18 (by decide) ?_
    obtain ⟨rfl, rfl⟩ := x_ret h
    exact x_zret C rfl dX9_restore_19
  · replace h := x_itn hc h
    refine x_aload_n C 0 dX9_restore_9 rfl rfl ?_
    refine x_getRq C (k := 71) kM_0 (by decide) rfl x_in9 (by decide) (by decide) rfl rfl wd_1279 rfM_0_71 dX9_restore_10 ?_
    refine x_iload_n C 1 dX9_restore_13 rfl rfl ?_
    obtain ⟨hi2, h⟩ := x_gd_some h
    refine x_zald C kM_43 (x_inl lnM_43 hi2) dX9_restore_14 ?_
    refine x_if_ne C 20 dX9_restore_15 rfl (fun hc => ?_) (fun hc => ?_)
    · replace h := x_itn hc h
      refine x_iconst C (0 : Int32) dX9_restore_20 (by decide) ?_
      refine x_istore_n C [(2, .int (0 : Int32)), (0, .ref (x_ad G 0)), (1, .int x1)] dX9_restore_21 rfl (by decide) rfl ?_
      exact x_sub [1, 2, 0] rfl (w_X9_restore_22 C x_fuel x1 (0 : Int32) σ1 h)
    · replace h := x_itp hc h
      refine x_iconst C (0 : Int32) dX9_restore_18 (by decide) ?_
      obtain ⟨rfl, rfl⟩ := x_ret h
      exact x_zret C rfl dX9_restore_19
abbrev rm_X9_count : Room := { frames := 0, cells := 0, slots := 0, locals := 0 }
set_option maxHeartbeats 4000000 in
set_option maxRecDepth 100000 in
theorem w_X9_count_135 {r : Int32} {τ : x_Hp} (C : x_C p s m args meth c cX9_count 2 (some .int) yX9_count.cls TM G) (s0 : Int32) (s1 : Int32) (σ : x_Hp) (h : F_X9_count_135 s0 s1 σ = some (r, τ)) : x_W p l e rm_X9_count s m args below meth c (MQ below (x_Q TM G (some (.int r)) τ) args s 0 0 (x_A TM G)) TM G 2 135 [(0, .ref (x_ad G 0))] [.int s0, .int s1] σ := by
  have hG : x_OK TM G := C.2.2.2.2.2.2.2.2.1
  rw [F_X9_count_135] at h
  refine x_iadd C dX9_count_135 ?_
  refine x_aload_n C 0 dX9_count_136 rfl rfl ?_
  refine x_getRq C (k := 71) kM_0 (by decide) rfl x_in9 (by decide) (by decide) rfl rfl wd_1279 rfM_0_71 dX9_count_137 ?_
  refine x_iconst C (2 : Int32) dX9_count_140 (by decide) ?_
  refine x_zaldJ C kM_43 (x_inl lnM_43 (by decide)) (j := 2) (by decide) dX9_count_141 ?_
  refine x_if_eq C 149 dX9_count_142 rfl (fun hc => ?_) (fun hc => ?_)
  · replace h := x_itp hc h
    refine x_iconst C (0 : Int32) dX9_count_149 (by decide) ?_
    refine x_iadd C dX9_count_150 ?_
    obtain ⟨rfl, rfl⟩ := x_ret h
    exact x_iret C dX9_count_151
  · replace h := x_itn hc h
    refine x_iconst C (1 : Int32) dX9_count_145 (by decide) ?_
    refine x_goto C 150 dX9_count_146 rfl ?_
    refine x_iadd C dX9_count_150 ?_
    obtain ⟨rfl, rfl⟩ := x_ret h
    exact x_iret C dX9_count_151
set_option maxHeartbeats 4000000 in
set_option maxRecDepth 100000 in
theorem w_X9_count_121 {r : Int32} {τ : x_Hp} (C : x_C p s m args meth c cX9_count 2 (some .int) yX9_count.cls TM G) (s0 : Int32) (σ : x_Hp) (h : F_X9_count_121 s0 σ = some (r, τ)) : x_W p l e rm_X9_count s m args below meth c (MQ below (x_Q TM G (some (.int r)) τ) args s 0 0 (x_A TM G)) TM G 2 121 [(0, .ref (x_ad G 0))] [.int s0] σ := by
  have hG : x_OK TM G := C.2.2.2.2.2.2.2.2.1
  rw [F_X9_count_121] at h
  refine x_aload_n C 0 dX9_count_121 rfl rfl ?_
  refine x_getRq C (k := 71) kM_0 (by decide) rfl x_in9 (by decide) (by decide) rfl rfl wd_1279 rfM_0_71 dX9_count_122 ?_
  refine x_iconst C (1 : Int32) dX9_count_125 (by decide) ?_
  refine x_zaldJ C kM_43 (x_inl lnM_43 (by decide)) (j := 1) (by decide) dX9_count_126 ?_
  refine x_if_eq C 134 dX9_count_127 rfl (fun hc => ?_) (fun hc => ?_)
  · replace h := x_itp hc h
    refine x_iconst C (0 : Int32) dX9_count_134 (by decide) ?_
    exact x_sub [0] rfl (w_X9_count_135 C (0 : Int32) s0 σ h)
  · replace h := x_itn hc h
    refine x_iconst C (1 : Int32) dX9_count_130 (by decide) ?_
    refine x_goto C 135 dX9_count_131 rfl ?_
    exact x_sub [0] rfl (w_X9_count_135 C (1 : Int32) s0 σ h)
set_option maxHeartbeats 4000000 in
set_option maxRecDepth 100000 in
theorem c_X9_count (hG : x_OK TM G) {x1 : Int32} {σ τ : x_Hp} {r : Int32} (h : F_X9_count x1 σ = some (r, τ)) : x_M l TM G yX9_count cX9_count 2 (some .int) rm_X9_count [.ref (x_ad G 0), .int x1] σ (some (.int r)) τ := by
  refine x_M.of hG (lv := [(0, .ref (x_ad G 0)), (1, .int x1)]) (by decide) (Nat.le_of_ble_eq_true rfl) rfl (fun p e s m below meth c C => ?_)
  rw [F_X9_count] at h
  refine x_iload_n C 1 dX9_count_0 rfl rfl ?_
  by_cases hw0 : x1 = (0 : Int32)
  · replace h := x_itp hw0 h
    refine x_ts_at C (0 : Int32) (71) 72 dX9_count_1 hw0 (by decide +kernel) (by decide +kernel) (by decide +kernel) rfl ?_
    refine x_aload_n C 0 dX9_count_72 rfl rfl ?_
    refine x_getRq C (k := 23) kM_0 (by decide) rfl x_in9 (by decide) (by decide) rfl rfl wd_1231 rfM_0_23 dX9_count_73 ?_
    refine x_aload_n C 0 dX9_count_76 rfl rfl ?_
    refine x_getI C (k := 18) kM_0 (by decide) rfl x_in9 (by decide) (by decide) rfl rfl wd_1226 dX9_count_77 ?_
    obtain ⟨hi1, h⟩ := x_gd_some h
    refine x_iald C kM_10 (x_inl lnM_10 hi1) dX9_count_80 ?_
    obtain ⟨rfl, rfl⟩ := x_ret h
    exact x_iret C dX9_count_81
  replace h := x_itn hw0 h
  by_cases hw1 : x1 = (1 : Int32)
  · replace h := x_itp hw1 h
    refine x_ts_at C (1 : Int32) (81) 82 dX9_count_1 hw1 (by decide +kernel) (by decide +kernel) (by decide +kernel) rfl ?_
    refine x_aload_n C 0 dX9_count_82 rfl rfl ?_
    refine x_getRq C (k := 48) kM_0 (by decide) rfl x_in9 (by decide) (by decide) rfl rfl wd_1256 rfM_0_48 dX9_count_83 ?_
    refine x_bipush C (11 : Int32) dX9_count_86 (by decide) ?_
    refine x_iload_n C 1 dX9_count_88 rfl rfl ?_
    refine x_iadd C dX9_count_89 ?_
    obtain ⟨hi2, h⟩ := x_gd_some h
    refine x_iald C kM_31 (x_inl lnM_31 hi2) dX9_count_90 ?_
    obtain ⟨rfl, rfl⟩ := x_ret h
    exact x_iret C dX9_count_91
  replace h := x_itn hw1 h
  by_cases hw2 : x1 = (2 : Int32)
  · replace h := x_itp hw2 h
    refine x_ts_at C (2 : Int32) (81) 82 dX9_count_1 hw2 (by decide +kernel) (by decide +kernel) (by decide +kernel) rfl ?_
    refine x_aload_n C 0 dX9_count_82 rfl rfl ?_
    refine x_getRq C (k := 48) kM_0 (by decide) rfl x_in9 (by decide) (by decide) rfl rfl wd_1256 rfM_0_48 dX9_count_83 ?_
    refine x_bipush C (11 : Int32) dX9_count_86 (by decide) ?_
    refine x_iload_n C 1 dX9_count_88 rfl rfl ?_
    refine x_iadd C dX9_count_89 ?_
    obtain ⟨hi3, h⟩ := x_gd_some h
    refine x_iald C kM_31 (x_inl lnM_31 hi3) dX9_count_90 ?_
    obtain ⟨rfl, rfl⟩ := x_ret h
    exact x_iret C dX9_count_91
  replace h := x_itn hw2 h
  by_cases hw3 : x1 = (3 : Int32)
  · replace h := x_itp hw3 h
    refine x_ts_at C (3 : Int32) (81) 82 dX9_count_1 hw3 (by decide +kernel) (by decide +kernel) (by decide +kernel) rfl ?_
    refine x_aload_n C 0 dX9_count_82 rfl rfl ?_
    refine x_getRq C (k := 48) kM_0 (by decide) rfl x_in9 (by decide) (by decide) rfl rfl wd_1256 rfM_0_48 dX9_count_83 ?_
    refine x_bipush C (11 : Int32) dX9_count_86 (by decide) ?_
    refine x_iload_n C 1 dX9_count_88 rfl rfl ?_
    refine x_iadd C dX9_count_89 ?_
    obtain ⟨hi4, h⟩ := x_gd_some h
    refine x_iald C kM_31 (x_inl lnM_31 hi4) dX9_count_90 ?_
    obtain ⟨rfl, rfl⟩ := x_ret h
    exact x_iret C dX9_count_91
  replace h := x_itn hw3 h
  by_cases hw4 : x1 = (4 : Int32)
  · replace h := x_itp hw4 h
    refine x_ts_at C (4 : Int32) (81) 82 dX9_count_1 hw4 (by decide +kernel) (by decide +kernel) (by decide +kernel) rfl ?_
    refine x_aload_n C 0 dX9_count_82 rfl rfl ?_
    refine x_getRq C (k := 48) kM_0 (by decide) rfl x_in9 (by decide) (by decide) rfl rfl wd_1256 rfM_0_48 dX9_count_83 ?_
    refine x_bipush C (11 : Int32) dX9_count_86 (by decide) ?_
    refine x_iload_n C 1 dX9_count_88 rfl rfl ?_
    refine x_iadd C dX9_count_89 ?_
    obtain ⟨hi5, h⟩ := x_gd_some h
    refine x_iald C kM_31 (x_inl lnM_31 hi5) dX9_count_90 ?_
    obtain ⟨rfl, rfl⟩ := x_ret h
    exact x_iret C dX9_count_91
  replace h := x_itn hw4 h
  by_cases hw5 : x1 = (5 : Int32)
  · replace h := x_itp hw5 h
    refine x_ts_at C (5 : Int32) (81) 82 dX9_count_1 hw5 (by decide +kernel) (by decide +kernel) (by decide +kernel) rfl ?_
    refine x_aload_n C 0 dX9_count_82 rfl rfl ?_
    refine x_getRq C (k := 48) kM_0 (by decide) rfl x_in9 (by decide) (by decide) rfl rfl wd_1256 rfM_0_48 dX9_count_83 ?_
    refine x_bipush C (11 : Int32) dX9_count_86 (by decide) ?_
    refine x_iload_n C 1 dX9_count_88 rfl rfl ?_
    refine x_iadd C dX9_count_89 ?_
    obtain ⟨hi6, h⟩ := x_gd_some h
    refine x_iald C kM_31 (x_inl lnM_31 hi6) dX9_count_90 ?_
    obtain ⟨rfl, rfl⟩ := x_ret h
    exact x_iret C dX9_count_91
  replace h := x_itn hw5 h
  by_cases hw6 : x1 = (6 : Int32)
  · replace h := x_itp hw6 h
    refine x_ts_at C (6 : Int32) (81) 82 dX9_count_1 hw6 (by decide +kernel) (by decide +kernel) (by decide +kernel) rfl ?_
    refine x_aload_n C 0 dX9_count_82 rfl rfl ?_
    refine x_getRq C (k := 48) kM_0 (by decide) rfl x_in9 (by decide) (by decide) rfl rfl wd_1256 rfM_0_48 dX9_count_83 ?_
    refine x_bipush C (11 : Int32) dX9_count_86 (by decide) ?_
    refine x_iload_n C 1 dX9_count_88 rfl rfl ?_
    refine x_iadd C dX9_count_89 ?_
    obtain ⟨hi7, h⟩ := x_gd_some h
    refine x_iald C kM_31 (x_inl lnM_31 hi7) dX9_count_90 ?_
    obtain ⟨rfl, rfl⟩ := x_ret h
    exact x_iret C dX9_count_91
  replace h := x_itn hw6 h
  by_cases hw7 : x1 = (7 : Int32)
  · replace h := x_itp hw7 h
    refine x_ts_at C (7 : Int32) (91) 92 dX9_count_1 hw7 (by decide +kernel) (by decide +kernel) (by decide +kernel) rfl ?_
    refine x_aload_n C 0 dX9_count_92 rfl rfl ?_
    refine x_getI C (k := 2) kM_0 (by decide) rfl x_in9 (by decide) (by decide) rfl rfl wd_1210 dX9_count_93 ?_
    obtain ⟨rfl, rfl⟩ := x_ret h
    exact x_iret C dX9_count_96
  replace h := x_itn hw7 h
  by_cases hw8 : x1 = (8 : Int32)
  · replace h := x_itp hw8 h
    refine x_ts_at C (8 : Int32) (96) 97 dX9_count_1 hw8 (by decide +kernel) (by decide +kernel) (by decide +kernel) rfl ?_
    refine x_aload_n C 0 dX9_count_97 rfl rfl ?_
    refine x_getI C (k := 54) kM_0 (by decide) rfl x_in9 (by decide) (by decide) rfl rfl wd_1262 dX9_count_98 ?_
    obtain ⟨rfl, rfl⟩ := x_ret h
    exact x_iret C dX9_count_101
  replace h := x_itn hw8 h
  by_cases hw9 : x1 = (9 : Int32)
  · replace h := x_itp hw9 h
    refine x_ts_at C (9 : Int32) (101) 102 dX9_count_1 hw9 (by decide +kernel) (by decide +kernel) (by decide +kernel) rfl ?_
    refine x_aload_n C 0 dX9_count_102 rfl rfl ?_
    refine x_getI C (k := 68) kM_0 (by decide) rfl x_in9 (by decide) (by decide) rfl rfl wd_1276 dX9_count_103 ?_
    obtain ⟨rfl, rfl⟩ := x_ret h
    exact x_iret C dX9_count_106
  replace h := x_itn hw9 h
  by_cases hw10 : x1 = (10 : Int32)
  · replace h := x_itp hw10 h
    refine x_ts_at C (10 : Int32) (106) 107 dX9_count_1 hw10 (by decide +kernel) (by decide +kernel) (by decide +kernel) rfl ?_
    refine x_aload_n C 0 dX9_count_107 rfl rfl ?_
    refine x_getRq C (k := 71) kM_0 (by decide) rfl x_in9 (by decide) (by decide) rfl rfl wd_1279 rfM_0_71 dX9_count_108 ?_
    refine x_iconst C (0 : Int32) dX9_count_111 (by decide) ?_
    refine x_zaldJ C kM_43 (x_inl lnM_43 (by decide)) (j := 0) (by decide) dX9_count_112 ?_
    refine x_if_eq C 120 dX9_count_113 rfl (fun hc => ?_) (fun hc => ?_)
    · replace h := x_itp hc h
      refine x_iconst C (0 : Int32) dX9_count_120 (by decide) ?_
      exact x_sub [0] rfl (w_X9_count_121 C (0 : Int32) σ h)
    · replace h := x_itn hc h
      refine x_iconst C (1 : Int32) dX9_count_116 (by decide) ?_
      refine x_goto C 121 dX9_count_117 rfl ?_
      exact x_sub [0] rfl (w_X9_count_121 C (1 : Int32) σ h)
  replace h := x_itn hw10 h
  by_cases hw11 : x1 = (11 : Int32)
  · replace h := x_itp hw11 h
    refine x_ts_at C (11 : Int32) (151) 152 dX9_count_1 hw11 (by decide +kernel) (by decide +kernel) (by decide +kernel) rfl ?_
    refine x_aload_n C 0 dX9_count_152 rfl rfl ?_
    refine x_getRq C (k := 29) kM_0 (by decide) rfl x_in9 (by decide) (by decide) rfl rfl wd_1237 rfM_0_29 dX9_count_153 ?_
    refine x_aload_n C 0 dX9_count_156 rfl rfl ?_
    refine x_getI C (k := 18) kM_0 (by decide) rfl x_in9 (by decide) (by decide) rfl rfl wd_1226 dX9_count_157 ?_
    obtain ⟨hi8, h⟩ := x_gd_some h
    refine x_iald C kM_16 (x_inl lnM_16 hi8) dX9_count_160 ?_
    obtain ⟨rfl, rfl⟩ := x_ret h
    exact x_iret C dX9_count_161
  replace h := x_itn hw11 h
  by_cases hw12 : x1 = (12 : Int32)
  · replace h := x_itp hw12 h
    refine x_ts_at C (12 : Int32) (161) 162 dX9_count_1 hw12 (by decide +kernel) (by decide +kernel) (by decide +kernel) rfl ?_
    refine x_aload_n C 0 dX9_count_162 rfl rfl ?_
    refine x_getRq C (k := 30) kM_0 (by decide) rfl x_in9 (by decide) (by decide) rfl rfl wd_1238 rfM_0_30 dX9_count_163 ?_
    refine x_aload_n C 0 dX9_count_166 rfl rfl ?_
    refine x_getI C (k := 18) kM_0 (by decide) rfl x_in9 (by decide) (by decide) rfl rfl wd_1226 dX9_count_167 ?_
    obtain ⟨hi9, h⟩ := x_gd_some h
    refine x_iald C kM_17 (x_inl lnM_17 hi9) dX9_count_170 ?_
    obtain ⟨rfl, rfl⟩ := x_ret h
    exact x_iret C dX9_count_171
  replace h := x_itn hw12 h
  by_cases hw13 : x1 = (13 : Int32)
  · replace h := x_itp hw13 h
    refine x_ts_at C (13 : Int32) (171) 172 dX9_count_1 hw13 (by decide +kernel) (by decide +kernel) (by decide +kernel) rfl ?_
    refine x_aload_n C 0 dX9_count_172 rfl rfl ?_
    refine x_getRq C (k := 48) kM_0 (by decide) rfl x_in9 (by decide) (by decide) rfl rfl wd_1256 rfM_0_48 dX9_count_173 ?_
    refine x_bipush C (18 : Int32) dX9_count_176 (by decide) ?_
    refine x_ialdJ C kM_31 (x_inl lnM_31 (by decide)) (j := 18) (by decide) dX9_count_178 ?_
    obtain ⟨rfl, rfl⟩ := x_ret h
    exact x_iret C dX9_count_179
  replace h := x_itn hw13 h
  refine x_ts_out C 180 dX9_count_1 (by have q0 := x_tne (k := 0) (by decide +kernel) hw0; have q1 := x_tne (k := 1) (by decide +kernel) hw1; have q2 := x_tne (k := 2) (by decide +kernel) hw2; have q3 := x_tne (k := 3) (by decide +kernel) hw3; have q4 := x_tne (k := 4) (by decide +kernel) hw4; have q5 := x_tne (k := 5) (by decide +kernel) hw5; have q6 := x_tne (k := 6) (by decide +kernel) hw6; have q7 := x_tne (k := 7) (by decide +kernel) hw7; have q8 := x_tne (k := 8) (by decide +kernel) hw8; have q9 := x_tne (k := 9) (by decide +kernel) hw9; have q10 := x_tne (k := 10) (by decide +kernel) hw10; have q11 := x_tne (k := 11) (by decide +kernel) hw11; have q12 := x_tne (k := 12) (by decide +kernel) hw12; have q13 := x_tne (k := 13) (by decide +kernel) hw13; omega) rfl ?_
  refine x_iconst C (-1 : Int32) dX9_count_180 (by decide) ?_
  obtain ⟨rfl, rfl⟩ := x_ret h
  exact x_iret C dX9_count_181
end WW
