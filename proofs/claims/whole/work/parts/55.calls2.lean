/-! SLOTS, WHAT IS TOLD, COUNTS -/
theorem sl_St : ∀ s, s < 3 → x_kd TX (171 + 2 * s) = 5 := by decide +kernel
theorem sl_rf : ∀ s, s < 3 → x_rf TX 141 s = 171 + 2 * s := by decide +kernel
theorem d_hold {K : Nat} {σ μ : x_Hp} (h : r_rel K σ μ) (x : Int32) : r_call (K + 1) (F_X8_hold x σ) (F_X9_hold x μ) := by
  obtain ⟨T, lv, N, v, ch, h1, h2, h3, h4, h5, h6, h7⟩ := id h
  rw [F_X8_hold, F_X9_hold]
  rcases q_btw (a' := 0) (b' := 2) x 0 2 rfl rfl (by decide) (by decide) with ⟨s, -, s2, rfl, -, hi⟩ | ⟨hb, hi, hn⟩
  · have hs : x_St (171 + 2 * s) := sl_St s (by omega)
    have ef := k_from hs x_St35 (by omega) (σ := σ) (u := v) (fun k _ => by rw [h1.2.2.2.1])
    rw [hi, x_b_s, if_neg (show ¬ (1 : Int32) = 0 by decide), if_neg (nI_pos (by omega)), if_neg (show ¬ (3 : Int32) ≤ nI s from nI_ge (b := 3) (by omega) (by decide)), x_gd_t (x_inb_nI (by omega) (by decide)), x_gd_t (x_inb_nI (by omega) (by decide)), x_ix_nI (by omega), sl_rf s (by omega), ef, x_b_s, e_put, x_b_s, x_pT_nI _ _ (by rw [lnX_142]; omega), x_gd_t (x_inb_nI (by omega) (by decide)), x_pt_s]
    have e1 : vp_nar .boolean (1 : Int32) = 1 := by decide
    rw [e1]
    obtain ⟨n, e⟩ := y_fill0 (F := fun n i μ => F_X9_hold_20 n (nI s) i μ) (r := 44) (b := 60 * s) (L := 60) (by decide) (f := fun k => μ.1 31 k) (P := fun _ ν => ∀ k, ν.1 31 k = μ.1 31 k) (fun i σ hi hp k => by rw [x_pI_1, if_neg (by omega)]; exact hp k) (fun n i σ hi hp => by
      have ix : (60 : Int32) * nI s + nI i = nI (60 * s + i) := by rw [show (60 : Int32) * nI s = nI (60 * s) from pk_mul 60 _, nI_add]
      rw [F_X9_hold_20, if_neg (show ¬ (60 : Int32) ≤ nI i from nI_ge (b := 60) hi (by decide)), ix, x_gd_t (x_inb_nI hi (by decide)), x_gd_t (x_inb_nI (by omega) (by decide)), x_pt_s, x_ix_nI (by omega), x_ix_nI (by omega), hp, nI_1]) (σ := x_pI μ 43 s 1) (fun k => by rw [x_pI_1, if_neg (by omega)])
    rw [e, F_X9_hold_20, if_pos (show (60 : Int32) ≤ nI 60 by decide)]
    have rx : ∀ a j, ¬ (a = 142 ∨ a = 171 + 2 * s ∨ a = 171 + 2 * s + 1 ∨ a = 13 ∨ a = 8) → (x_pI (x_hp σ (171 + 2 * s) v (x_sc σ)) 142 s 1).1 a j = σ.1 a j := fun a j q => by
      rw [x_pI_1, if_neg (by omega), x_hp_oth _ _ _ _ _ (by omega) (by omega) (by omega) (by omega)]
    have rz : ∀ a j, ¬ (a = 43 ∨ a = 44) → (y_fl (x_pI μ 43 s 1) 44 (60 * s) 60 (fun k => μ.1 31 k) 0).1 a j = μ.1 a j := fun a j q => by
      rw [y_fl_o _ _ _ _ _ (by omega), x_pI_1, if_neg (by omega)]
    have g35 : x_gS (x_pI (x_hp σ (171 + 2 * s) v (x_sc σ)) 142 s 1) 35 = v := by
      rw [gS_pI _ _ _ (by decide) (by decide), gS_hp_o hs x_St35 (by omega)]; exact h1.2.2.2.1
    refine ⟨1, _, _, rfl, rfl, T, lv, N, v, ch, ⟨h1.1.ag (fun a j q => rx a j (by omega)), h1.2.1.agt ⟨rz _ _ (by omega), fun a j q1 q2 => rz a j (by omega)⟩, h1.2.2.1, g35, h1.2.2.2.2.1.mono (by omega), fun k hk => by rw [rz _ _ (by omega)]; exact h1.2.2.2.2.2 k hk⟩, ?_, by omega, ?_, ?_, ?_, ?_⟩
    · exact (h2.ag (fun a j q1 q2 => rx a j (by omega)) (rz _ _ (by omega)) (fun j => rz _ _ (by omega))).mono (by omega)
    · intro s' hs'
      by_cases q : s' = s
      · subst q
        right
        have g : e62 (x_gS (x_pI (x_hp σ (171 + 2 * s') v (x_sc σ)) 142 s' 1) (171 + 2 * s')) v := by
          rw [gS_pI _ _ _ (by omega) (by omega)]; exact gS_hp hs _ _ _
        refine ⟨by rw [x_pI_1, if_pos ⟨rfl, rfl⟩], by rw [y_fl_o _ _ _ _ _ (by omega), x_pI_1, if_pos ⟨rfl, rfl⟩], (h1.2.2.2.2.1.mono (by omega)).c g, fun k hk => ?_⟩
        rw [y_fl_in _ _ _ _ _ hk, h1.2.2.2.2.2 k hk, y_rv_c g hk]
      · have g : x_gS (x_pI (x_hp σ (171 + 2 * s) v (x_sc σ)) 142 s 1) (171 + 2 * s') = x_gS σ (171 + 2 * s') := by
          rw [gS_pI _ _ _ (by omega) (by omega), gS_hp_o hs (sl_St s' hs') (by omega)]
        have e142 : (x_pI (x_hp σ (171 + 2 * s) v (x_sc σ)) 142 s 1).1 142 s' = σ.1 142 s' := by
          rw [x_pI_1, if_neg (by omega), x_hp_oth _ _ _ _ _ (by omega) (by omega) (by decide) (by decide)]
        have e43 : (y_fl (x_pI μ 43 s 1) 44 (60 * s) 60 (fun k => μ.1 31 k) 0).1 43 s' = μ.1 43 s' := by
          rw [y_fl_o _ _ _ _ _ (by omega), x_pI_1, if_neg (by omega)]
        rw [g, e142, e43]
        rcases h4 s' hs' with z | ⟨z1, z2, z3, z4⟩
        · exact Or.inl z
        · refine Or.inr ⟨z1, z2, z3.mono (by omega), fun k hk => ?_⟩
          rw [y_fl_o _ _ _ _ _ (by omega), x_pI_1, if_neg (by omega)]; exact z4 k hk
    · exact h5.ag (fun a j q => rx a j (by omega)) (fun a j q => rz a j (by omega))
    · exact h6.ag (fun a j q => rx a j (by omega)) (fun a j q => rz a j (by omega))
    · exact h7.ag (fun a j q1 q2 => by
        by_cases q3 : a = 142
        · omega
        · exact rx a j (by omega))
  · rw [hi, x_b_s, if_pos rfl]
    by_cases q : x < 0
    · rw [if_pos q]; exact h.same _
    · obtain ⟨j, hj, rfl⟩ := nI_of q
      have : ¬ (0 ≤ j ∧ j ≤ 2) := hn j hj rfl
      rw [if_neg q, if_pos (show (3 : Int32) ≤ nI j from nI_le (a := 3) (by omega) hj)]; exact h.same _
theorem d_restore {K : Nat} {σ μ : x_Hp} (h : r_rel K σ μ) (x : Int32) : r_call (K + 1) (F_X8_restore x σ) (F_X9_restore x μ) := by
  obtain ⟨T, lv, N, v, ch, h1, h2, h3, h4, h5, h6, h7⟩ := id h
  obtain ⟨len, b, u1, u2, u3, u4, u5, u6, u7⟩ := id h2
  rw [F_X8_restore, F_X9_restore]
  rcases q_btw (a' := 0) (b' := 2) x 0 2 rfl rfl (by decide) (by decide) with ⟨s, -, s2, rfl, -, hi⟩ | ⟨hb, hi, hn⟩
  · have hs : x_St (171 + 2 * s) := sl_St s (by omega)
    rw [hi, x_b_s, if_neg (show ¬ (1 : Int32) = 0 by decide), if_neg (nI_pos (by omega)), if_neg (show ¬ (3 : Int32) ≤ nI s from nI_ge (b := 3) (by omega) (by decide)), e_at, x_b_s, x_aT_nI _ _ (by rw [lnX_142]; omega), x_gd_t (x_inb_nI (by omega) (by decide)), x_gd_t (x_inb_nI (by omega) (by decide)), x_ix_nI (by omega)]
    rcases h4 s (by omega) with ⟨z1, z2⟩ | ⟨z1, z2, z3, z4⟩
    · rw [z1, z2, if_pos rfl, if_pos rfl]; exact h.same _
    · have ef := k_from x_St35 hs (by omega) (σ := σ) (u := x_gS σ (171 + 2 * s)) (fun k _ => rfl)
      rw [z1, z2, if_neg (show ¬ (1 : Int32) = 0 by decide), if_neg (show ¬ (1 : Int32) = 0 by decide), sl_rf s (by omega), ef, x_b_s]
      have eb : ∀ ρ : x_Hp, F_X7_begin ρ = some ((), x_pI (x_pI (x_pI ρ 39 1 0) 39 2 0) 39 3 ((x_pI (x_pI ρ 39 1 0) 39 2 0).1 39 3 + 1)) := fun _ => rfl
      rw [eb, x_b_s]
      have e3 : (x_pI (x_pI (x_hp σ 35 (x_gS σ (171 + 2 * s)) (x_sc σ)) 39 1 0) 39 2 0).1 39 3 + 1 = nI (ch + 1) := by
        rw [x_pI_1, if_neg (by omega), x_pI_1, if_neg (by omega), x_hp_oth _ _ _ _ _ (by decide) (by decide) (by decide) (by decide), u5, nI_1]
      rw [e3]
      obtain ⟨n, e⟩ := y_fill0 (F := fun n i μ => F_X9_restore_22 n (nI s) i μ) (r := 31) (b := 0) (L := 60) (by decide) (f := fun k => μ.1 44 (60 * s + k)) (P := fun _ ν => ∀ k, ν.1 44 k = μ.1 44 k) (fun i σ hi hp k => by rw [x_pI_1, if_neg (by omega)]; exact hp k) (fun n i σ hi hp => by
        have ix : (60 : Int32) * nI s + nI i = nI (60 * s + i) := by rw [show (60 : Int32) * nI s = nI (60 * s) from pk_mul 60 _, nI_add]
        rw [F_X9_restore_22, if_neg (show ¬ (60 : Int32) ≤ nI i from nI_ge (b := 60) hi (by decide)), ix, x_gd_t (x_inb_nI (by omega) (by decide)), x_gd_t (x_inb_nI hi (by decide)), x_pt_s, x_ix_nI (by omega), x_ix_nI (by omega), hp, nI_1, Nat.zero_add]) (σ := μ) (fun k => rfl)
      rw [show (0 : Int32) = nI 0 from rfl] at e ⊢
      rw [e, F_X9_restore_22, if_pos (show (60 : Int32) ≤ nI 60 by decide), x_pt_s]
      have rx : ∀ a j, ¬ (a = 35 ∨ a = 36 ∨ a = 39 ∨ a = 13 ∨ a = 8) → (x_pI (x_pI (x_pI (x_hp σ 35 (x_gS σ (171 + 2 * s)) (x_sc σ)) 39 1 (nI 0)) 39 2 (nI 0)) 39 3 (nI (ch + 1))).1 a j = σ.1 a j := fun a j q => by
        rw [x_pI_1, if_neg (by omega), x_pI_1, if_neg (by omega), x_pI_1, if_neg (by omega), x_hp_oth _ _ _ _ _ (by omega) (by omega) (by omega) (by omega)]
      have rz : ∀ a j, ¬ (a = 31 ∨ (a = 0 ∧ j = 54)) → (x_pI (y_fl μ 31 0 60 (fun k => μ.1 44 (60 * s + k)) 0) 0 54 0).1 a j = μ.1 a j := fun a j q => by
        rw [x_pI_1, if_neg (by omega), y_fl_o _ _ _ _ _ (by omega)]
      have r31 : ∀ k, k < 60 → (x_pI (y_fl μ 31 0 60 (fun k => μ.1 44 (60 * s + k)) 0) 0 54 0).1 31 k = y_rv (x_gS σ (171 + 2 * s)) k := fun k hk => by
        have := y_fl_in μ 31 0 60 (fun k => μ.1 44 (60 * s + k)) hk
        rw [Nat.zero_add] at this
        rw [x_pI_1, if_neg (by omega), this]; exact z4 k hk
      have g35 : e62 (x_gS (x_pI (x_pI (x_pI (x_hp σ 35 (x_gS σ (171 + 2 * s)) (x_sc σ)) 39 1 (nI 0)) 39 2 (nI 0)) 39 3 (nI (ch + 1))) 35) (x_gS σ (171 + 2 * s)) := by
        rw [gS_pI _ _ _ (by decide) (by decide), gS_pI _ _ _ (by decide) (by decide), gS_pI _ _ _ (by decide) (by decide)]; exact gS_hp x_St35 _ _ _
      refine ⟨1, _, _, rfl, rfl, T, lv, N, _, ch + 1, r_V.mk (h1.1.ag (fun a j q => rx a j (by omega))) (h1.2.1.agt ⟨rz _ _ (by omega), fun a j q1 q2 => rz a j (by omega)⟩) h1.2.2.1 g35 (z3.mono (by omega)) r31, ?_, by omega, ?_, ?_, ?_, ?_⟩
      · refine ⟨0, 0, by omega, by omega, by rw [x_pI_1, if_neg (by omega), x_pI_1, if_neg (by omega), x_pI_1, if_pos ⟨rfl, rfl⟩], by rw [x_pI_1, if_neg (by omega), x_pI_1, if_pos ⟨rfl, rfl⟩], by rw [x_pI_1, if_pos ⟨rfl, rfl⟩], by rw [x_pI_1, if_pos ⟨rfl, rfl⟩]; rfl, fun j hj => by omega⟩
      · exact (h4.ag (fun a j q => rx a j (by omega)) (fun a j q => rz a j (by omega))).mono (by omega)
      · exact h5.ag (fun a j q => rx a j (by omega)) (fun a j q => rz a j (by omega))
      · exact h6.ag (fun a j q => rx a j (by omega)) (fun a j q => rz a j (by omega))
      · exact h7.nx (fun j => rx 143 j (by omega))
  · rw [hi, x_b_s, if_pos rfl]
    by_cases q : x < 0
    · rw [if_pos q]; exact h.same _
    · obtain ⟨j, hj, rfl⟩ := nI_of q
      have : ¬ (0 ≤ j ∧ j ≤ 2) := hn j hj rfl
      rw [if_neg q, if_pos (show (3 : Int32) ≤ nI j from nI_le (a := 3) (by omega) hj)]; exact h.same _
/-- only what is told changes -/
theorem told_out {σ μ τ ν : x_Hp} {K : Nat} (h : r_rel K σ μ) (hT : r_T τ ν) (h1 : ∀ a b, ¬ ((a = 0 ∧ b = 13) ∨ a = 169 ∨ a = 170) → τ.1 a b = σ.1 a b) (h2 : ∀ a b, ¬ ((a = 0 ∧ b = 68) ∨ a = 41 ∨ a = 42) → ν.1 a b = μ.1 a b) : r_rel (K + 1) τ ν := by
  obtain ⟨T, lv, N, v, ch, g1, g2, g3, g4, -, g6, g7⟩ := h
  refine ⟨T, lv, N, v, ch, ?_, (g2.ag (fun a b p q => h1 a b (by omega)) (h2 _ _ (by omega)) (fun b => h2 _ _ (by omega))).mono (by omega), by omega, (g4.ag (fun a b p => h1 a b (by omega)) (fun a b p => h2 a b (by omega))).mono (by omega), hT, g6.ag (fun a b p => h1 a b (by omega)) (fun a b p => h2 a b (by omega)), g7.ag (fun a b p q => h1 a b (by omega))⟩
  obtain ⟨a1, a2, a3, a4, a5, a6⟩ := g1
  refine ⟨a1.ag (fun a b q => h1 a b (by omega)), a2.agt ⟨h2 _ _ (by omega), fun a b p q => h2 a b (by omega)⟩, a3, ?_, a5.mono (by omega), fun k hk => by rw [h2 _ _ (by omega)]; exact a6 k hk⟩
  rw [← a4]
  exact gS_ag 35 (fun b => h1 _ _ (by omega)) (fun b => h1 _ _ (by omega))
theorem r_rel.T {K : Nat} {σ μ : x_Hp} (h : r_rel K σ μ) : r_T σ μ := by
  obtain ⟨_, _, _, _, _, _, _, _, _, q, _⟩ := h; exact q
theorem d_tell {K : Nat} {σ μ : x_Hp} (h : r_rel K σ μ) (x1 x2 : Int32) : r_call (K + 1) (F_X8_tell x1 x2 σ) (F_X9_tell x1 x2 μ) := by
  obtain ⟨n, t1, t2, t3, t4⟩ := h.T
  rw [F_X8_tell, F_X9_tell, t3]
  rcases q_btw (a' := 0) (b' := 59) x1 0 59 rfl rfl (by decide) (by decide) with ⟨mi, -, mi2, rfl, hb1, hi1⟩ | ⟨hb1, hi1, -⟩
  · rw [hb1, x_b_s, if_neg (show ¬ (1 : Int32) = 0 by decide)]
    rcases q_btw (a' := 0) (b' := 99) x2 0 99 rfl rfl (by decide) (by decide) with ⟨cr, -, cr2, rfl, hb2, hi2⟩ | ⟨hb2, hi2, -⟩
    · rw [hb2, x_b_s, if_neg (show ¬ (1 : Int32) = 0 by decide), t2]
      by_cases q : n = 20
      · subst q
        rw [if_neg (show ¬ nI 20 < 20 by decide), if_pos (show nI 20 = 20 from rfl)]; exact h.same _
      · rw [if_pos (show nI n < (20 : Int32) from nI_lt (b := 20) (by omega) (by decide)), if_neg (show ¬ nI n = 20 from fun z => q ((nI_eq (b := 20) (by omega) (by decide)).mp z)), hi1, x_b_s, if_neg (show ¬ (1 : Int32) = 0 by decide), hi2, x_b_s, if_neg (show ¬ (1 : Int32) = 0 by decide), t3, x_gd_t (x_inb_nI (by omega) (by decide)), x_ix_nI (by omega), x_pt_s]
        have m68 : (x_pI μ 41 n (nI mi)).1 0 68 = nI n := by rw [x_pI_1, if_neg (by omega)]; exact t3
        have m68' : (x_pI (x_pI μ 41 n (nI mi)) 42 n (nI cr)).1 0 68 = nI n := by rw [x_pI_1, if_neg (by omega)]; exact m68
        have s13 : (x_pI σ 169 n (nI mi)).1 0 13 = nI n := by rw [x_pI_1, if_neg (by omega)]; exact t2
        have s13' : (x_pI (x_pI σ 169 n (nI mi)) 170 n (nI cr)).1 0 13 = nI n := by rw [x_pI_1, if_neg (by omega)]; exact s13
        rw [m68, x_gd_t (x_inb_nI (by omega) (by decide)), x_ix_nI (by omega), x_pt_s, m68', x_pt_s, e_put, x_b_s, x_pT_nI _ _ (by rw [lnX_169]; omega), s13, e_put, x_b_s, x_pT_nI _ _ (by rw [lnX_170]; omega), s13', x_pt_s, nI_1]
        have e1 : (x_pI (x_pI (x_pI σ 169 n (nI mi)) 170 n (nI cr)) 0 13 (nI (n + 1))).1 0 13 = nI (n + 1) := by rw [x_pI_1, if_pos ⟨rfl, rfl⟩]
        have e2 : (x_pI (x_pI (x_pI μ 41 n (nI mi)) 42 n (nI cr)) 0 68 (nI (n + 1))).1 0 68 = nI (n + 1) := by rw [x_pI_1, if_pos ⟨rfl, rfl⟩]
        rw [e1, e2]
        refine ⟨_, _, _, rfl, rfl, told_out h ⟨n + 1, by omega, e1, e2, fun j hj => ?_⟩ (fun a b q => by rw [x_pI_1, if_neg (by omega), x_pI_1, if_neg (by omega), x_pI_1, if_neg (by omega)]) (fun a b q => by rw [x_pI_1, if_neg (by omega), x_pI_1, if_neg (by omega), x_pI_1, if_neg (by omega)])⟩
        have pu : ∀ (ρ : x_Hp) (a j k : Nat) (y : Int32), (x_pI ρ a k y).1 a j = if j = k then y else ρ.1 a j := fun ρ a j k y => by
          rw [x_pI_1]
          by_cases q : j = k
          · rw [if_pos ⟨rfl, q⟩, if_pos q]
          · rw [if_neg (by omega), if_neg q]
        have po : ∀ (ρ : x_Hp) (a a' j k : Nat) (y : Int32), a ≠ a' → (x_pI ρ a' k y).1 a j = ρ.1 a j := fun ρ a a' j k y q => by rw [x_pI_1, if_neg (by omega)]
        rw [po _ 169 0 _ _ _ (by decide), po _ 169 170 _ _ _ (by decide), pu, po _ 41 0 _ _ _ (by decide), po _ 41 42 _ _ _ (by decide), pu, po _ 170 0 _ _ _ (by decide), pu, po _ 42 0 _ _ _ (by decide), pu, po _ 170 169 _ _ _ (by decide), po _ 42 41 _ _ _ (by decide)]
        by_cases qj : j = n
        · simp only [if_pos qj]
          exact ⟨⟨mi, by omega, rfl, rfl⟩, trivial⟩
        · simp only [if_neg qj]
          exact t4 j (by omega)
    · rw [hb2, x_b_s, if_pos rfl, hi1, x_b_s, if_neg (show ¬ (1 : Int32) = 0 by decide), hi2, x_b_s, if_pos rfl]
      split
      · exact h.same _
      · exact h.same _
  · rw [hb1, x_b_s, if_pos rfl, hi1, x_b_s, if_pos rfl]
    split
    · exact h.same _
    · exact h.same _
theorem d_forget {K : Nat} {σ μ : x_Hp} (h : r_rel K σ μ) : r_call (K + 1) (F_X8_forget σ) (F_X9_forget μ) := by
  obtain ⟨n, t1, t2, t3, t4⟩ := h.T
  rw [F_X8_forget, F_X9_forget, x_pt_s, x_pt_s, t2, t3]
  exact ⟨_, _, _, rfl, rfl, told_out h ⟨0, by omega, by rw [x_pI_1, if_pos ⟨rfl, rfl⟩]; rfl, by rw [x_pI_1, if_pos ⟨rfl, rfl⟩]; rfl, fun j hj => by omega⟩ (fun a b q => by rw [x_pI_1, if_neg (by omega)]) (fun a b q => by rw [x_pI_1, if_neg (by omega)])⟩
theorem d_place {K : Nat} {σ μ : x_Hp} (h : r_rel K σ μ) : r_call (K + 1) (F_X8_place σ) (F_X9_place μ) := by
  obtain ⟨⟨n, n1, n2, n3, n4, n5⟩, n6⟩ := (show r_P σ μ by obtain ⟨_, _, _, _, _, _, _, _, _, _, q, _⟩ := h; exact q)
  rw [F_X8_place, F_X9_place, n4]; exact h.same _
theorem d_count {K : Nat} {σ μ : x_Hp} (h : r_rel K σ μ) (x : Int32) : r_call (K + 1) (F_X8_count x σ) (F_X9_count x μ) := by
  obtain ⟨T, lv, N, v, ch, h1, h2, h3, h4, h5, h6, h7⟩ := id h
  obtain ⟨n1, n6, n7⟩ := h1.n
  obtain ⟨hlv, y18, y10⟩ := h1.y18
  obtain ⟨len, b, u1, u2, u3, u4, u5, u6, u7⟩ := h2
  obtain ⟨nt, t1, t2, t3, t4⟩ := h5
  obtain ⟨⟨np, p1, p2, p3, p4, p5⟩, p6⟩ := h6
  have e35 := h1.2.2.2.1
  rw [F_X8_count, F_X9_count, y18, x_gd_t (x_inb_nI hlv (by decide)), x_ix_nI (by omega), y10, n1]
  by_cases c0 : x = 0
  · rw [if_pos c0, if_pos c0]; exact h.same _
  rw [if_neg c0, if_neg c0]
  have st : ∀ k, k < 49 → x_inb ((11 : Int32) + nI k) 60 = true := fun k hk => by
    rw [show (11 : Int32) + nI k = nI (11 + k) from nI_add 11 k]; exact x_inb_nI (by omega) (by decide)
  have ix : ∀ k, k < 49 → x_ix ((11 : Int32) + nI k) = 11 + k := fun k hk => by
    rw [show (11 : Int32) + nI k = nI (11 + k) from nI_add 11 k, x_ix_nI (by omega)]
  by_cases c1 : x = 1
  · rw [if_pos c1, if_pos c1, c1, show (11 : Int32) + 1 = 11 + nI 1 from rfl, x_gd_t (st 1 (by decide)), ix 1 (by decide), h1.g (by decide), h1.m (k := 11 + 1) 15 rfl (by decide) (by decide)]; exact h.same _
  rw [if_neg c1, if_neg c1]
  by_cases c2 : x = 2
  · rw [if_pos c2, if_pos c2, c2, show (11 : Int32) + 2 = 11 + nI 2 from rfl, x_gd_t (st 2 (by decide)), ix 2 (by decide), k_all35 e35, x_b_s, show μ.1 31 (11 + 2) = m_all v 1 from h1.m13.1]; exact h.same _
  rw [if_neg c2, if_neg c2]
  by_cases c3 : x = 3
  · rw [if_pos c3, if_pos c3, c3, show (11 : Int32) + 3 = 11 + nI 3 from rfl, x_gd_t (st 3 (by decide)), ix 3 (by decide), k_all35 e35, x_b_s, show μ.1 31 (11 + 3) = m_all v 2 from h1.m13.2.1]; exact h.same _
  rw [if_neg c3, if_neg c3]
  by_cases c4 : x = 4
  · rw [if_pos c4, if_pos c4, c4, show (11 : Int32) + 4 = 11 + nI 4 from rfl, x_gd_t (st 4 (by decide)), ix 4 (by decide), k_all35 e35, x_b_s, show μ.1 31 (11 + 4) = m_all v 4 from h1.m13.2.2]; exact h.same _
  rw [if_neg c4, if_neg c4]
  by_cases c5 : x = 5
  · rw [if_pos c5, if_pos c5, c5, show (11 : Int32) + 5 = 11 + nI 5 from rfl, x_gd_t (st 5 (by decide)), ix 5 (by decide), h1.g (by decide), h1.m (k := 11 + 5) 17 rfl (by decide) (by decide)]; exact h.same _
  rw [if_neg c5, if_neg c5]
  by_cases c6 : x = 6
  · rw [if_pos c6, if_pos c6, c6, show (11 : Int32) + 6 = 11 + nI 6 from rfl, x_gd_t (st 6 (by decide)), ix 6 (by decide), h1.g (by decide), h1.m (k := 11 + 6) 18 rfl (by decide) (by decide)]; exact h.same _
  rw [if_neg c6, if_neg c6]
  by_cases c7 : x = 7
  · rw [if_pos c7, if_pos c7, p2, p3]; exact h.same _
  rw [if_neg c7, if_neg c7]
  by_cases c8 : x = 8
  · rw [if_pos c8, if_pos c8, u3, u6]; exact h.same _
  rw [if_neg c8, if_neg c8]
  by_cases c9 : x = 9
  · rw [if_pos c9, if_pos c9, t2, t3]; exact h.same _
  rw [if_neg c9, if_neg c9]
  by_cases c10 : x = 10
  · have a142 : ∀ s, s < 3 → x_aT σ 142 (nI s) = σ.1 142 s := fun s hs => x_aT_nI _ _ (by rw [lnX_142]; exact hs)
    have e0 : x_aT σ 142 0 = σ.1 142 0 := a142 0 (by decide)
    have e1 : x_aT σ 142 1 = σ.1 142 1 := a142 1 (by decide)
    have e2 : x_aT σ 142 2 = σ.1 142 2 := a142 2 (by decide)
    rw [if_pos c10, if_pos c10, e_at, x_b_s, e_at, x_b_s, e_at, x_b_s, e0, e1, e2]
    have g : ∀ s, s < 3 → (σ.1 142 s = 0 ∧ μ.1 43 s = 0) ∨ (σ.1 142 s = 1 ∧ μ.1 43 s = 1) := fun s hs => by
      rcases h4 s hs with q | ⟨q1, q2, -⟩
      · exact Or.inl q
      · exact Or.inr ⟨q1, q2⟩
    rcases g 0 (by decide) with ⟨a0, b0⟩ | ⟨a0, b0⟩ <;> rcases g 1 (by decide) with ⟨a1, b1⟩ | ⟨a1, b1⟩ <;> rcases g 2 (by decide) with ⟨a2, b2⟩ | ⟨a2, b2⟩ <;> rw [a0, a1, a2, b0] <;> first | rw [if_pos (show (0 : Int32) = 0 from rfl)] | rw [if_neg (show ¬ (1 : Int32) = 0 by decide)]
    all_goals rw [F_X9_count_121, b1]
    all_goals first | rw [if_pos (show (0 : Int32) = 0 from rfl)] | rw [if_neg (show ¬ (1 : Int32) = 0 by decide)]
    all_goals rw [F_X9_count_135, b2]
    all_goals first | rw [if_pos (show (0 : Int32) = 0 from rfl)] | rw [if_neg (show ¬ (1 : Int32) = 0 by decide)]
    all_goals exact h.same _
  rw [if_neg c10, if_neg c10]
  by_cases c11 : x = 11
  · rw [if_pos c11, if_pos c11, x_gd_t (x_inb_nI hlv (by decide)), h1.1.1 4, h1.2.1.2.2.2.2.2.2.1]; exact h.same _
  rw [if_neg c11, if_neg c11]
  by_cases c12 : x = 12
  · rw [if_pos c12, if_pos c12, x_gd_t (x_inb_nI hlv (by decide)), h1.1.1 5, h1.2.1.2.2.2.2.2.2.2.1]; exact h.same _
  rw [if_neg c12, if_neg c12]
  by_cases c13 : x = 13
  · rw [if_pos c13, if_pos c13, h1.g (by decide), h1.m (k := 18) 19 rfl (by decide) (by decide)]; exact h.same _
  rw [if_neg c13, if_neg c13]; exact h.same _
