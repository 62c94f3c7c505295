/-! LEFT OUT, LETTING GO -/
section R1
variable {T : x_TT} {lv N t : Nat} {v : x_V}
def y_s0 (μ : x_Hp) (lv : Nat) : x_Hp := x_pI (x_pI (y_m0 μ lv) 0 56 0) 0 57 (-2)
theorem y_s0_o (μ : x_Hp) (lv : Nat) {a b : Nat} (h : a ≠ 0 ∨ (b ≠ 56 ∧ b ≠ 57)) : (y_s0 μ lv).1 a b = (y_m0 μ lv).1 a b := by
  rw [y_s0, x_pI_1, if_neg (by omega), x_pI_1, if_neg (by omega)]
theorem y_s0_56 (μ : x_Hp) (lv : Nat) : (y_s0 μ lv).1 0 56 = 0 := by rw [y_s0, x_pI_1, if_neg (by omega), x_pI_1, if_pos ⟨rfl, rfl⟩]
theorem y_s0_57 (μ : x_Hp) (lv : Nat) : (y_s0 μ lv).1 0 57 = -2 := by rw [y_s0, x_pI_1, if_pos ⟨rfl, rfl⟩]
theorem y_s0_51 (μ : x_Hp) (lv : Nat) : (y_s0 μ lv).1 0 51 = -1 := by rw [y_s0_o _ _ (by omega)]; exact y_m0_51 μ lv
theorem y_s0.agr (μ : x_Hp) (lv : Nat) : y_agr (y_m0 μ lv) (y_s0 μ lv) := fun a b _ h => y_s0_o μ lv (by omega)
theorem y_s0.sm (μ : x_Hp) (lv : Nat) : y_sm μ (y_s0 μ lv) := ((y_m0.sm μ lv).tr (y_sm.put (by unfold y_Sb; omega) _)).tr (y_sm.put (by unfold y_Sb; omega) _)
theorem z_starts {σ μ : x_Hp} (h : r_V σ μ T lv N t v) : F_X9_starts μ = some ((), z_hp (y_s0 μ lv) v (y_sc μ)) := by
  rw [F_X9_starts, z_take h, x_b_s, x_pt_s, z_putO _ _ _ (by decide) (by decide) (by decide) (by decide) (Or.inr (by decide)), x_pt_s, z_putO _ _ _ (by decide) (by decide) (by decide) (by decide) (Or.inr (by decide))]
  rfl
theorem s0_G {σ μ : x_Hp} (h : r_V σ μ T lv N t v) (h0 : 0 < N) : y_G (y_s0 μ lv) T N v := (J_G h.2.1 h0 h.2.2.2.2.1).agr (y_s0.agr μ lv)
theorem s0_T {σ μ : x_Hp} (h : r_V σ μ T lv N t v) : y_Tx (y_s0 μ lv) T lv N := h.2.1.agt (y_s0.sm μ lv).agt
theorem q_left_in {σ μ : x_Hp} (hV : r_V σ μ T lv N t v) {m : Nat} (hm : m ≤ 10) (x2 : Int32) {out : Nat} (K : Int32 → Int32 → Int32 → x_Hp → Option (Int32 × x_Hp)) (K' : Int32 → Int32 → Int32 → Int32 → Int32 → x_Hp → Option (Int32 × x_Hp)) (b l : Int32) (hout : out < N) : ∀ (d f f' i : Nat) (u : x_V) (c : x_Sc) (ν : x_Hp) (e : y_Sc) (s : Nat), i + d = N → d < f → d < f' → y_sm μ ν → ν.1 0 51 = -1 → y_Tx ν T lv N → y_G ν T N u → u 13 = nI 0 → s ≤ 60390 * i → m_all u 1 = m_all v 1 + nI s → ν.1 0 56 = nI s → ∃ s2 τ ν2, s2 < 2 ^ 31 ∧ x_sm σ τ ∧ (∀ b, τ.1 167 b = σ.1 167 b) ∧ y_sm μ ν2 ∧ F_X8_leftOut_65 K f (nI m) x2 (nI out) (nI i) (x_hp σ 37 u c) = x_b (F_X2_offer 167 (nI out) (nI s2) τ) (fun _ σ9 => K (nI m) x2 (nI (out + 1)) σ9) ∧ F_X9_leftOut_57 K' f' (nI m) x2 b l (nI out) (nI i) (z_hp ν u e) = (if l < 0 then K' (nI m) x2 (nI out) (nI s2) (nI (out + 1)) ν2 else if nI s2 < l then K' (nI m) x2 (nI out) (nI s2) (nI (out + 1)) ν2 else K' (nI m) x2 b l (nI (out + 1)) ν2) := by
  obtain ⟨n1, n6, n7⟩ := hV.n
  have hB := hV.2.2.1
  intro d
  induction d with
  | zero =>
    intro f f' i u c ν e s h1 h2 h3 sy h51 hT hG h13 hs es e56
    obtain ⟨f, rfl⟩ : ∃ m, f = m + 1 := ⟨f - 1, by omega⟩
    obtain ⟨f', rfl⟩ : ∃ m, f' = m + 1 := ⟨f' - 1, by omega⟩
    have : i = N := by omega
    subst this
    have e35 : x_gS (x_hp σ 37 u c) 35 = v := by rw [x_gS_hp]; exact hV.2.2.2.1
    refine ⟨s, x_hp σ 37 u c, z_hp ν u e, by omega, x_sm.hp _ _ _, fun b => l_hp _ _ _ b, sy.tr (y_sm.hp _ _ _), ?_, ?_⟩
    · rw [F_X8_leftOut_65, x_tx1 x_St37 hV.1, n7, if_pos (nI_le (Nat.le_refl _) (by omega)), e_all x_St37, x_b_s, k_all35 e35, x_b_s, es, x_sub_l, nI_1]
    · rw [F_X9_leftOut_57, z_0 _ _ _ (by decide), hT.2.2.1, x_gd_t (x_inb_nI hT.1 (by decide)), x_ix_nI (by have := hT.1; omega), z_lo _ _ _ (a := 10) _ (by decide) (by decide), hT.2.2.2.2.1, if_pos (nI_le (Nat.le_refl _) (by omega)), z_0 _ _ _ (by decide), e56, F_X9_leftOut_108, F_X9_leftOut_117, F_X9_leftOut_117, z_0 _ _ _ (by decide), e56, nI_1]
  | succ d ih =>
    intro f f' i u c ν e s h1 h2 h3 sy h51 hT hG h13 hs es e56
    obtain ⟨f, rfl⟩ : ∃ m, f = m + 1 := ⟨f - 1, by omega⟩
    obtain ⟨f', rfl⟩ : ∃ m, f' = m + 1 := ⟨f' - 1, by omega⟩
    rw [F_X8_leftOut_65, x_tx1 x_St37 hV.1, n7, if_neg (nI_ge (by omega) (by omega)), F_X9_leftOut_57, z_0 _ _ _ (by decide), hT.2.2.1, x_gd_t (x_inb_nI hT.1 (by decide)), x_ix_nI (by have := hT.1; omega), z_lo _ _ _ (a := 10) _ (by decide) (by decide), hT.2.2.2.2.1, if_neg (nI_ge (by omega) (by omega))]
    by_cases q : nI i = nI out
    · rw [if_pos q, if_pos q, F_X8_leftOut_97, F_X9_leftOut_85, nI_1]
      exact ih f f' (i + 1) u c ν e s (by omega) (by omega) (by omega) sy h51 hT hG h13 (by omega) es e56
    · obtain ⟨c2, g⟩ := e_keep x_St37 hV.1 u c (nI i) (m := m) (by omega)
      obtain ⟨d2, k, k13, kG⟩ := y_give hT hB h51 hG h13 e (a := i) (m := m) (by omega) (by omega)
      obtain ⟨-, s1, hs1, es1⟩ := m_keep_I n7 n6 hB hG.1 (a := i) (by omega) m
      rw [if_neg q, if_neg q, g, x_b_s, k, x_b_s, F_X8_leftOut_97, F_X9_leftOut_85, nI_1]
      have hs1' : s1 ≤ 60390 := by
        have : m * 61 ≤ 610 := by omega
        omega
      refine ih f f' (i + 1) _ c2 _ d2 (s + s1) (by omega) (by omega) (by omega) (sy.tr (y_wr_sm _ _ _ _ _)) (by rw [y_g1, y_wr_o _ _ _ _ _ (by omega) (by omega) (by omega)]; exact h51) (hT.agr (y_wr_agr _ _ _ _ _)) kG k13 (by omega) ?_ ?_
      · rw [es1, es, Int32.add_assoc, nI_add]
      · rw [y_g1, y_wr_56, e56, m_kc, ← m_keep_all (by omega), es1, x_sub_l, nI_add]
theorem q_leftOut {σ μ : x_Hp} (h : r_V σ μ T lv N t v) (x1 x2 : Int32) : q_S σ μ (F_X8_leftOut x1 x2 σ) (F_X9_leftOut x1 x2 μ) := by
  rw [F_X8_leftOut, F_X9_leftOut, isShort_eq]
  refine q_gb x1 1 10 rfl rfl (by decide) (by decide) ?_
  rintro m m1 m2 rfl
  refine q_gb x2 0 1 rfl rfl (by decide) (by decide) ?_
  rintro w - - rfl
  refine q_gw h ?_
  intro h0 h13 hW
  have n6 := h.n.2.1
  obtain ⟨τ, o, sm, ln⟩ := l_begin σ
  rw [o, x_b_s]
  refine q_S.tr sm (y_sm.rf μ) (q_least (T := T) (lv := lv) (N := N) (t := t) (v := v) (fun n' => F_X8_leftOut_40 n' (nI m) (nI w)) (fun n' b l i => F_X9_leftOut_36 n' (nI m) (nI w) b l i) 0 N True (by omega) nI ?_ ?_ N x_fuel x_fuel 0 0 (-1) τ μ (h.sm sm (y_sm.rf μ)) (by omega) (by omega) (by rw [x_fuel]; omega) (by rw [x_fuel]; omega) (Or.inl ⟨ln, by decide, rfl, trivial⟩))
  · intro n' n'' b l σ μ hV ha
    obtain ⟨n1, n6, n7⟩ := hV.n
    obtain ⟨hlv, y18, y10⟩ := hV.y18
    rw [F_X8_leftOut_40, F_X9_leftOut_36, n1, if_pos (nI_le (Nat.le_refl _) (by omega)), y18, x_gd_t (x_inb_nI hlv (by decide)), x_ix_nI (by omega), y10, if_pos (nI_le (Nat.le_refl _) (by omega))]
    exact q_fin ha _
  · intro n' n'' i b l σ μ _ hi _ hV
    left
    obtain ⟨n1, n6, n7⟩ := hV.n
    obtain ⟨hlv, y18, y10⟩ := hV.y18
    rw [F_X8_leftOut_40, F_X9_leftOut_36, n1, if_neg (nI_ge hi (by omega)), y18, x_gd_t (x_inb_nI hlv (by decide)), x_ix_nI (by omega), y10, if_neg (nI_ge hi (by omega)), k_take hV, x_b_s, z_starts hV, x_b_s]
    obtain ⟨s2, τ2, ν2, a1, a2, a3, a4, a5, a6⟩ := q_left_in hV m2 (nI w) (F_X8_leftOut_40 n') (F_X9_leftOut_36 n'') b l hi N x_fuel x_fuel 0 v (x_sc σ) (y_s0 μ lv) (y_sc μ) 0 (by omega) (by rw [x_fuel]; omega) (by rw [x_fuel]; omega) (y_s0.sm μ lv) (y_s0_51 μ lv) (s0_T hV) (s0_G hV h0) h13 (by omega) (by rw [show nI 0 = (0 : Int32) from rfl, Int32.add_zero]) (y_s0_56 μ lv)
    exact ⟨s2, τ2, ν2, a2, a3, a4, a1, a5, a6⟩
end R1
