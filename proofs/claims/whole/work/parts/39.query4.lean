/-! ROUNDS, PEAK, MERRY, SLEEPS, SILK -/
theorem c_gb {σ : x_Hp} {A : Int32 → x_Hp → Option (Int32 × x_Hp)} {r : Int32} (x a' b' : Int32) (h : A 1 σ = some (r, σ)) : x_b (F_X8_between x a' b' σ) (fun v1 σ1 => if v1 = 0 then some (r, σ1) else A v1 σ1) = some (r, σ) := by
  rw [F_X8_between]
  split
  · rw [x_b_s, if_pos rfl]
  · split
    · rw [x_b_s, if_pos rfl]
    · rw [x_b_s, if_neg (by decide)]; exact h
theorem k_all35 {τ : x_Hp} {v : x_V} (h : x_gS τ 35 = v) (w : Int32) : F_X5_allTallied 35 w τ = some (m_all v w, τ) := by
  have := e_all x_St35 w τ (x_gS τ 35) (x_sc τ)
  rw [← x_hp_of τ x_St35, h] at this
  exact this
theorem k_tal35 {τ : x_Hp} {v : x_V} (h : x_gS τ 35 = v) (a w : Int32) : F_X5_tallied 35 a w τ = some (m_tal v a w, τ) := by
  have := e_tallied x_St35 a w τ (x_gS τ 35) (x_sc τ)
  rw [← x_hp_of τ x_St35, h] at this
  exact this
section Q5
variable {T : x_TT} {lv N t : Nat} {v : x_V}
theorem m_tg_in (hN7 : T.1 1 7 = nI N) (hN6 : N ≤ 6) {w : Nat} (hw : w < N) (h9 : v 9 = nI w) (rule m : Int32) : ∃ j, j < N ∧ m_tg T N rule m v = nI j := by
  have hb : ∃ j, j < N ∧ m_beh T (v 9) = nI j := ⟨(w + 1) % N, Nat.mod_lt _ (by omega), by rw [h9, m_beh_nI hN7 hw hN6]⟩
  rw [m_tg]
  split
  · exact hb
  · split
    · exact hb
    · split
      · rcases m_few_in v N 0 (v 9) (Or.inr rfl) with ⟨j, hj, e⟩ | e
        · exact ⟨j, by omega, e⟩
        · exact ⟨w, hw, by rw [e, h9]⟩
      · exact ⟨w, hw, h9⟩
theorem m_all_over (a q : Int32) : m_all (m_over T v a) q = m_all v q := by
  have e : ∀ x : Int32, m_tal (m_over T v a) x q = m_tal v x q := by
    intro x
    rw [m_tal, m_tal]
    split
    · exact m_over_lo v a (by omega)
    · rfl
  rw [m_all, m_all, e, e, e, e, e, e]
theorem m_rus_cry (hN7 : T.1 1 7 = nI N) (hN6 : N ≤ 6) (hB : m_TB T N) (rule m : Int32) : ∀ (d : Nat) (v : x_V), m_I N v → m_I N (m_rus T N rule m d v) ∧ ∃ s, s ≤ 99 * d ∧ m_all (m_rus T N rule m d v) 1 = m_all v 1 + nI s := by
  intro d
  induction d with
  | zero => intro v h; exact ⟨h, 0, by omega, by rw [show nI 0 = (0 : Int32) from rfl, Int32.add_zero]; rfl⟩
  | succ d ih =>
    intro v h
    obtain ⟨w, hw, h9⟩ := h.1
    obtain ⟨j, hj, ej⟩ := m_tg_in hN7 hN6 hw h9 rule m
    have key : ∀ u, m_I N u → m_all u 1 = m_all v 1 → m_I N (m_rus T N rule m d (m_step T u)) ∧ ∃ s, s ≤ 99 * (d + 1) ∧ m_all (m_rus T N rule m d (m_step T u)) 1 = m_all v 1 + nI s := by
      intro u hu eu
      obtain ⟨e, c, hc, ec⟩ := m_all_step hN7 hN6 (Or.inl hu)
      obtain ⟨hI, s, hs, es⟩ := ih (m_step T u) (hu.step hN7 hN6)
      refine ⟨hI, c + s, by omega, ?_⟩
      rw [es, e, ec, eu, Int32.add_assoc, nI_add]
    rw [m_rus, m_ru]
    split
    · split
      · exact key v h rfl
      · rw [ej]; exact key _ (h.over hB hj) (m_all_over _ _)
    · exact key v h rfl
/-- a round gone through by both -/
theorem q_rule {σ μ : x_Hp} (hV : r_V σ μ T lv N t v) (h0 : 0 < N) {rule m n : Nat} (hr : rule < 4) (hn : n ≤ 240) : ∃ s c2 d2, s ≤ 99 * n ∧ m_all (m_rus T N (nI rule) (nI m) n v) 1 - m_all v 1 = nI s ∧ F_X0_goByRule 34 37 (nI rule) (nI m) (nI n) (x_hp σ 37 v (x_sc σ)) = some ((), x_hp σ 37 (m_rus T N (nI rule) (nI m) n v) c2) ∧ F_X9_rounds (nI rule) (nI m) (nI n) μ = some ((), z_hp (y_m0 μ lv) (m_rus T N (nI rule) (nI m) n v) d2) := by
  obtain ⟨-, n6, n7⟩ := hV.n
  have hW := hV.2.2.2.2.1.W h0
  obtain ⟨-, s, hs, es⟩ := m_rus_cry n7 n6 hV.2.2.1 (nI rule) (nI m) n v hW.1
  obtain ⟨c2, g⟩ := e_rule x_St37 hV.1 n7 n6 (nI rule) (nI m) n x_fuel 0 v (x_sc σ) (by omega) (by rw [x_fuel]; omega)
  obtain ⟨d2, f⟩ := y_rule hV.t0 hV.2.2.1 (y_m0_51 μ lv) (nI rule) (nI m) (by
    have : rule = 0 ∨ rule = 1 ∨ rule = 2 ∨ rule = 3 := by omega
    rcases this with rfl | rfl | rfl | rfl
    · exact Or.inl rfl
    · exact Or.inr (Or.inl rfl)
    · exact Or.inr (Or.inr (Or.inl rfl))
    · exact Or.inr (Or.inr (Or.inr rfl))) n x_fuel 0 v (y_sc μ) (J_G hV.2.1 h0 hV.2.2.2.2.1) (by omega) (by rw [x_fuel]; omega)
  rw [Nat.zero_add] at g f
  refine ⟨s, c2, d2, hs, by rw [es, x_sub_l], ?_, ?_⟩
  · rw [F_X0_goByRule]; exact g
  · rw [F_X9_rounds, z_take hV, x_b_s]; exact f
theorem r_V.m13 {σ μ : x_Hp} (h : r_V σ μ T lv N t v) : μ.1 31 13 = m_all v 1 ∧ μ.1 31 14 = m_all v 2 ∧ μ.1 31 15 = m_all v 4 := by
  refine ⟨?_, ?_, ?_⟩
  · rw [h.2.2.2.2.2 13 (by decide), y_rv, if_pos (by decide), y_lo]; rfl
  · rw [h.2.2.2.2.2 14 (by decide), y_rv, if_pos (by decide), y_lo]; rfl
  · rw [h.2.2.2.2.2 15 (by decide), y_rv, if_pos (by decide), y_lo]; rfl
theorem z_31 (μ : x_Hp) (v : x_V) (c : y_Sc) (b : Nat) : (z_hp μ v c).1 31 b = μ.1 31 b := z_oth μ v c b (by decide) (by decide) (by decide) (by decide) (Or.inl (by decide))
theorem y_m0_31 (μ : x_Hp) (lv b : Nat) : (y_m0 μ lv).1 31 b = μ.1 31 b := y_set_o _ _ _ _ (Or.inl (by decide))
theorem x_gS_hp {σ : x_Hp} {u : x_V} {c : x_Sc} : x_gS (x_hp σ 37 u c) 35 = x_gS σ 35 := (x_sm.hp σ u c).gS
theorem q_round {σ μ : x_Hp} (h : r_V σ μ T lv N t v) (x1 x2 x3 x4 : Int32) : q_S σ μ (F_X8_round x1 x2 x3 x4 σ) (F_X9_round x1 x2 x3 x4 μ) := by
  obtain ⟨n1, n6, n7⟩ := h.n
  obtain ⟨hlv, y18, y10⟩ := h.y18
  rw [F_X9_round, y18, x_gd_t (x_inb_nI hlv (by decide)), x_ix_nI (by omega), y10]
  rcases Nat.eq_zero_or_pos N with z | z
  · rw [if_pos (by rw [z]; rfl)]
    have e : F_X8_round x1 x2 x3 x4 σ = some (-1, σ) := by
      rw [F_X8_round]
      refine c_gb _ _ _ (c_gb _ _ _ (c_gb _ _ _ (c_gb _ _ _ ?_)))
      rw [n1, if_pos (by rw [z]; rfl)]
    rw [e]; exact q_S.c _ _ _
  · rw [if_neg (nI_ne0 z (by omega)), F_X8_round]
    refine q_gb x1 0 3 rfl rfl (by decide) (by decide) ?_
    rintro rule - r2 rfl
    refine q_gb x2 1 20 rfl rfl (by decide) (by decide) ?_
    rintro m - m2 rfl
    refine q_gb x3 1 240 rfl rfl (by decide) (by decide) ?_
    rintro n - n2 rfl
    refine q_gb x4 0 2 rfl rfl (by decide) (by decide) ?_
    rintro w - w2 rfl
    obtain ⟨s, c2, d2, -, -, g, f⟩ := q_rule h z (rule := rule) (m := m) (n := n) (by omega) n2
    rw [n1, if_neg (nI_ne0 z (by omega)), k_take h, x_b_s, g, x_b_s, f, x_b_s, x_hp_get _ _ _ _ (by decide), z_13, z_14, z_get _ _ _ 9 (k := 4) rfl (by decide) (by decide), z_31, z_31, y_m0_31, y_m0_31, h.m13.1, h.m13.2.1]
    have hm : y_sm μ (z_hp (y_m0 μ lv) (m_rus T N (nI rule) (nI m) n v) d2) := (y_m0.sm μ lv).tr (y_sm.hp _ _ _)
    have e35 : x_gS (x_hp σ 37 (m_rus T N (nI rule) (nI m) n v) c2) 35 = v := by rw [x_gS_hp]; exact h.2.2.2.1
    have hc : w = 0 ∨ w = 1 ∨ w = 2 := by omega
    rcases hc with rfl | rfl | rfl
    · rw [if_neg (show ¬ nI 0 = 2 by decide), if_pos (show nI 0 = 0 from rfl), if_pos (show nI 0 = 0 from rfl), F_X8_round_101, e_all x_St37, x_b_s, k_all35 e35, x_b_s]
      exact q_S.d _ (x_sm.hp _ _ _) hm
    · rw [if_neg (show ¬ nI 1 = 2 by decide), if_neg (show ¬ nI 1 = 0 by decide), if_neg (show ¬ nI 1 = 0 by decide), if_pos (show nI 1 = 1 from rfl), F_X8_round_101, e_all x_St37, x_b_s, k_all35 e35, x_b_s]
      exact q_S.d _ (x_sm.hp _ _ _) hm
    · rw [if_pos (show nI 2 = 2 from rfl), if_neg (show ¬ nI 2 = 0 by decide), if_neg (show ¬ nI 2 = 1 by decide)]
      exact q_S.d _ (x_sm.hp _ _ _) hm
theorem q_best_loop (h0 : 0 < N) {n : Nat} (hn : n ≤ 120) (x2 : Int32) : ∀ (d f f' rule : Nat) (b l : Int32) (σ μ : x_Hp), r_V σ μ T lv N t v → rule + d = 4 → d < f → d < f' → ((l_N σ ∧ l < 0 ∧ rule = 0) ∨ l_A σ b l) → q_S σ μ (F_X8_bestRound_40 f (nI n) x2 (nI rule) σ) (F_X9_bestRound_41 f' (nI n) x2 b l (nI rule) μ) := by
  intro d
  induction d with
  | zero =>
    intro f f' rule b l σ μ hV h1 h2 h3 h4
    obtain ⟨f, rfl⟩ : ∃ m, f = m + 1 := ⟨f - 1, by omega⟩
    obtain ⟨f', rfl⟩ : ∃ m, f' = m + 1 := ⟨f' - 1, by omega⟩
    have : rule = 4 := by omega
    subst this
    rw [F_X8_bestRound_40, F_X9_bestRound_41, if_pos (show (4 : Int32) ≤ nI 4 by decide), if_pos (show (4 : Int32) ≤ nI 4 by decide)]
    rcases h4 with ⟨-, -, q⟩ | q
    · omega
    · exact q_fin q _
  | succ d ih =>
    intro f f' rule b l σ μ hV h1 h2 h3 h4
    obtain ⟨f, rfl⟩ : ∃ m, f = m + 1 := ⟨f - 1, by omega⟩
    obtain ⟨f', rfl⟩ : ∃ m, f' = m + 1 := ⟨f' - 1, by omega⟩
    rw [F_X8_bestRound_40, F_X9_bestRound_41, if_neg (show ¬ (4 : Int32) ≤ nI rule from nI_ge (b := 4) (by omega) (by decide)), if_neg (show ¬ (4 : Int32) ≤ nI rule from nI_ge (b := 4) (by omega) (by decide))]
    refine q_least (T := T) (lv := lv) (N := N) (t := t) (v := v) (fun n' i => F_X8_bestRound_48 (F_X8_bestRound_40 f) n' (nI n) x2 (nI rule) i) (fun n' b l i => F_X9_bestRound_50 (F_X9_bestRound_41 f') n' (nI n) x2 b l (nI rule) i) 1 21 True (by omega) (fun m => (100 : Int32) * nI rule + nI m) ?_ ?_ 20 x_fuel x_fuel 1 b l σ μ hV (by omega) (by omega) (by decide) (by decide) ?_
    · intro n' n'' b l σ μ hV ha
      rw [F_X8_bestRound_48, F_X9_bestRound_50, if_pos (show (20 : Int32) < nI 21 by decide), if_pos (show (20 : Int32) < nI 21 by decide), nI_1]
      exact ih f f' (rule + 1) b l σ μ hV (by omega) (by omega) (by omega) (Or.inr ha)
    · intro n' n'' i b l σ μ _ hi _ hV
      left
      obtain ⟨s, c2, d2, hs, es, g, k⟩ := q_rule hV h0 (rule := rule) (m := i) (n := n) (by omega) (by omega)
      have e35 : x_gS (x_hp σ 37 (m_rus T N (nI rule) (nI i) n v) c2) 35 = v := by rw [x_gS_hp]; exact hV.2.2.2.1
      rw [F_X8_bestRound_48, if_neg (show ¬ (20 : Int32) < nI i from nI_nlt (a := 20) (by omega) (by decide)), k_take hV, x_b_s, g, x_b_s, e_all x_St37, x_b_s, k_all35 e35, x_b_s, es, nI_1]
      rw [F_X9_bestRound_50, if_neg (show ¬ (20 : Int32) < nI i from nI_nlt (a := 20) (by omega) (by decide)), k, x_b_s, z_13, z_31, y_m0_31, hV.m13.1, es]
      refine ⟨s, x_hp σ 37 (m_rus T N (nI rule) (nI i) n v) c2, z_hp (y_m0 μ lv) (m_rus T N (nI rule) (nI i) n v) d2, x_sm.hp _ _ _, fun b => l_hp _ _ _ b, (y_m0.sm μ lv).tr (y_sm.hp _ _ _), by omega, rfl, ?_⟩
      simp only [F_X9_bestRound_98, F_X9_bestRound_111, nI_1]
    · rcases h4 with ⟨p, q, -⟩ | q
      · exact Or.inl ⟨p, q, rfl, trivial⟩
      · exact Or.inr q
theorem q_bestRound {σ μ : x_Hp} (h : r_V σ μ T lv N t v) (x1 x2 : Int32) : q_S σ μ (F_X8_bestRound x1 x2 σ) (F_X9_bestRound x1 x2 μ) := by
  obtain ⟨n1, n6, n7⟩ := h.n
  obtain ⟨hlv, y18, y10⟩ := h.y18
  rw [F_X9_bestRound, y18, x_gd_t (x_inb_nI hlv (by decide)), x_ix_nI (by omega), y10]
  rcases Nat.eq_zero_or_pos N with z | z
  · rw [if_pos (by rw [z]; rfl)]
    have e : F_X8_bestRound x1 x2 σ = some (-1, σ) := by
      rw [F_X8_bestRound]
      refine c_gb _ _ _ (c_gb _ _ _ ?_)
      rw [n1, if_pos (by rw [z]; rfl)]
    rw [e]; exact q_S.c _ _ _
  · rw [if_neg (nI_ne0 z (by omega)), F_X8_bestRound]
    refine q_gb x1 1 120 rfl rfl (by decide) (by decide) ?_
    rintro n - n2 rfl
    refine q_gb x2 0 1 rfl rfl (by decide) (by decide) ?_
    rintro w - - rfl
    obtain ⟨τ, o, sm, ln⟩ := l_begin σ
    rw [n1, if_neg (nI_ne0 z (by omega)), o, x_b_s]
    exact q_S.tr sm (y_sm.rf μ) (q_best_loop z n2 (nI w) 4 x_fuel x_fuel 0 0 (-1) τ μ (h.sm sm (y_sm.rf μ)) (by omega) (by decide) (by decide) (Or.inl ⟨ln, by decide, rfl⟩))
theorem q_peak_loop {σ μ ν : x_Hp} (hV : r_V σ μ T lv N t v) (hm : y_Tx ν T lv N) (sy : y_sm μ ν) {n : Nat} (hn : n ≤ 240) (x2 : Int32) : ∀ (d f f' i : Nat) (u : x_V) (c : x_Sc) (e : y_Sc) (b l : Int32), y_H ν T N u → (m_I N u ∨ m_Z N u) → i + d = n → d < f → d < f' → q_S σ μ (F_X8_peak_41 f (nI n) x2 l b (nI i) (x_hp σ 37 u c)) (F_X9_peak_34 f' (nI n) x2 b l (nI i) (z_hp ν u e)) := by
  obtain ⟨n1, n6, n7⟩ := hV.n
  intro d
  induction d with
  | zero =>
    intro f f' i u c e b l hH _ h1 h2 h3
    obtain ⟨f, rfl⟩ : ∃ m, f = m + 1 := ⟨f - 1, by omega⟩
    obtain ⟨f', rfl⟩ : ∃ m, f' = m + 1 := ⟨f' - 1, by omega⟩
    have : i = n := by omega
    subst this
    rw [F_X8_peak_41, F_X9_peak_34, if_pos (nI_le (Nat.le_refl _) (by omega)), if_pos (nI_le (Nat.le_refl _) (by omega)), i_pick, i_pick]
    exact q_S.d _ (x_sm.hp _ _ _) (sy.tr (y_sm.hp _ _ _))
  | succ d ih =>
    intro f f' i u c e b l hH hIZ h1 h2 h3
    obtain ⟨f, rfl⟩ : ∃ m, f = m + 1 := ⟨f - 1, by omega⟩
    obtain ⟨f', rfl⟩ : ∃ m, f' = m + 1 := ⟨f' - 1, by omega⟩
    obtain ⟨c2, g⟩ := e_step x_St37 hV.1 u c
    obtain ⟨d2, k⟩ := z_cries hm hH e (k := 1) (by omega)
    have es := (m_all_step n7 n6 hIZ).1
    have e1 : m_goes T 1 u = m_step T u := rfl
    rw [e1, es, x_sub_l] at k
    have hm2 := hH.step hm
    have hIZ2 := m_WZ.step n7 n6 hIZ
    rw [F_X8_peak_41, F_X9_peak_34, if_neg (nI_ge (by omega) (by omega)), if_neg (nI_ge (by omega) (by omega)), g, x_b_s, x_hp_get _ _ _ _ (by decide), show (1 : Int32) = nI 1 from rfl, k, x_b_s]
    by_cases q : m_step T u 12 ≤ l
    · have q2 : ¬ l < m_step T u 12 := by rw [Int32.lt_iff_toInt_lt]; rw [Int32.le_iff_toInt_le] at q; omega
      rw [if_pos q, if_neg q2, F_X8_peak_81, F_X9_peak_64, nI_1]
      exact ih f f' (i + 1) _ c2 d2 b l hm2 hIZ2 (by omega) (by omega) (by omega)
    · have q2 : l < m_step T u 12 := by rw [Int32.lt_iff_toInt_lt]; rw [Int32.le_iff_toInt_le] at q; omega
      rw [if_neg q, if_pos q2, F_X8_peak_81, F_X9_peak_64, nI_1]
      exact ih f f' (i + 1) _ c2 d2 (nI i) _ hm2 hIZ2 (by omega) (by omega) (by omega)
theorem q_peak {σ μ : x_Hp} (h : r_V σ μ T lv N t v) (x1 x2 : Int32) : q_S σ μ (F_X8_peak x1 x2 σ) (F_X9_peak x1 x2 μ) := by
  rw [F_X8_peak, F_X9_peak]
  refine q_gb x1 1 240 rfl rfl (by decide) (by decide) ?_
  rintro n - n2 rfl
  refine q_gb x2 0 1 rfl rfl (by decide) (by decide) ?_
  rintro w - w2 rfl
  rw [k_take h, z_take h, x_b_s, x_b_s]
  have hc : w = 0 ∨ w = 1 := by omega
  exact q_peak_loop h h.t0 (y_m0.sm μ lv) n2 (nI w) n x_fuel x_fuel 0 v _ _ 0 (-1) h.H h.2.2.2.2.1.IZ (by omega) (by rw [x_fuel]; omega) (by rw [x_fuel]; omega)
theorem q_merry_loop {σ μ ν : x_Hp} (hV : r_V σ μ T lv N t v) (hm : y_Tx ν T lv N) (sy : y_sm μ ν) : ∀ (d f f' i : Nat) (u : x_V) (c : x_Sc) (e : y_Sc), y_H ν T N u → i + d = 241 → d < f → d < f' → q_S σ μ (F_X8_merry_22 f (m_all v 2) (nI i) (x_hp σ 37 u c)) (F_X9_merry_6 f' (nI i) (z_hp ν u e)) := by
  intro d
  induction d with
  | zero =>
    intro f f' i u c e hH h1 h2 h3
    obtain ⟨f, rfl⟩ : ∃ m, f = m + 1 := ⟨f - 1, by omega⟩
    obtain ⟨f', rfl⟩ : ∃ m, f' = m + 1 := ⟨f' - 1, by omega⟩
    have : i = 241 := by omega
    subst this
    rw [F_X8_merry_22, F_X9_merry_6, if_pos (show (240 : Int32) < nI 241 by decide), if_pos (show (240 : Int32) < nI 241 by decide)]
    exact q_S.d _ (x_sm.hp _ _ _) (sy.tr (y_sm.hp _ _ _))
  | succ d ih =>
    intro f f' i u c e hH h1 h2 h3
    obtain ⟨f, rfl⟩ : ∃ m, f = m + 1 := ⟨f - 1, by omega⟩
    obtain ⟨f', rfl⟩ : ∃ m, f' = m + 1 := ⟨f' - 1, by omega⟩
    obtain ⟨c2, g⟩ := e_step x_St37 hV.1 u c
    obtain ⟨d2, k⟩ := y_stepH hm hH e
    have l240 : ¬ (240 : Int32) < nI i := (show ¬ (240 : Int32) < nI i from nI_nlt (a := 240) (by omega) (by decide))
    have m14 : ν.1 31 14 = m_all v 2 := by rw [sy 31 14 (by unfold y_Sb; omega), hV.m13.2.1]
    rw [F_X8_merry_22, F_X9_merry_6, if_neg l240, if_neg l240, g, x_b_s, e_all x_St37, x_b_s, k, x_b_s, z_14, z_31, m14]
    by_cases q : m_all (m_step T u) 2 ≤ m_all v 2
    · rw [if_pos q, if_pos q, nI_1]
      exact ih f f' (i + 1) _ c2 d2 (hH.step hm) (by omega) (by omega) (by omega)
    · rw [if_neg q, if_neg q]
      exact q_S.d _ (x_sm.hp _ _ _) (sy.tr (y_sm.hp _ _ _))
theorem q_merry {σ μ : x_Hp} (h : r_V σ μ T lv N t v) : q_S σ μ (F_X8_merry σ) (F_X9_merry μ) := by
  have e35 : x_gS (x_hp σ 37 v (x_sc σ)) 35 = v := by rw [x_gS_hp]; exact h.2.2.2.1
  rw [F_X8_merry, F_X9_merry, k_take h, z_take h, x_b_s, x_b_s, k_all35 e35, x_b_s]
  exact q_merry_loop h h.t0 (y_m0.sm μ lv) 240 x_fuel x_fuel 1 v _ _ h.H (by omega) (by decide) (by decide)
theorem q_sleeps_loop {σ μ ν : x_Hp} (hV : r_V σ μ T lv N t v) (hm : y_Tx ν T lv N) (sy : y_sm μ ν) : ∀ (d f f' i : Nat) (u : x_V) (c : x_Sc) (e : y_Sc), y_H ν T N u → i + d = 240 → d < f → d + 1 < f' → q_S σ μ (F_X8_sleeps_13 f (nI i) (x_hp σ 37 u c)) (F_X9_sleeps_6 f' (nI i) (z_hp ν u e)) := by
  intro d
  induction d with
  | zero =>
    intro f f' i u c e hH h1 h2 h3
    obtain ⟨f, rfl⟩ : ∃ m, f = m + 1 := ⟨f - 1, by omega⟩
    obtain ⟨f', rfl⟩ : ∃ m, f' = m + 2 := ⟨f' - 2, by omega⟩
    have : i = 240 := by omega
    subst this
    rw [F_X8_sleeps_13, F_X9_sleeps_6, if_pos (show (240 : Int32) ≤ nI 240 by decide), if_neg (show ¬ (240 : Int32) < nI 240 by decide), x_hp_get _ _ _ _ (by decide), z_get _ _ _ 13 (k := 7) rfl (by decide) (by decide)]
    by_cases q : u 13 ≤ 0
    · obtain ⟨d2, k⟩ := y_stepH hm hH e
      rw [if_pos q, if_pos q, k, x_b_s, nI_1, F_X9_sleeps_6, if_pos (show (240 : Int32) < nI (240 + 1) by decide)]
      exact q_S.d _ (x_sm.hp _ _ _) (sy.tr (y_sm.hp _ _ _))
    · rw [if_neg q, if_neg q]
      exact q_S.d _ (x_sm.hp _ _ _) (sy.tr (y_sm.hp _ _ _))
  | succ d ih =>
    intro f f' i u c e hH h1 h2 h3
    obtain ⟨f, rfl⟩ : ∃ m, f = m + 1 := ⟨f - 1, by omega⟩
    obtain ⟨f', rfl⟩ : ∃ m, f' = m + 1 := ⟨f' - 1, by omega⟩
    obtain ⟨c2, g⟩ := e_step x_St37 hV.1 u c
    obtain ⟨d2, k⟩ := y_stepH hm hH e
    have l240 : ¬ (240 : Int32) < nI i := (show ¬ (240 : Int32) < nI i from nI_nlt (a := 240) (by omega) (by decide))
    have m240 : ¬ (240 : Int32) ≤ nI i := (show ¬ (240 : Int32) ≤ nI i from nI_ge (b := 240) (by omega) (by decide))
    rw [F_X8_sleeps_13, F_X9_sleeps_6, if_neg m240, if_neg l240, x_hp_get _ _ _ _ (by decide), z_get _ _ _ 13 (k := 7) rfl (by decide) (by decide)]
    by_cases q : u 13 ≤ 0
    · rw [if_pos q, if_pos q, g, k, x_b_s, x_b_s, nI_1]
      exact ih f f' (i + 1) _ c2 d2 (hH.step hm) (by omega) (by omega) (by omega)
    · rw [if_neg q, if_neg q]
      exact q_S.d _ (x_sm.hp _ _ _) (sy.tr (y_sm.hp _ _ _))
theorem q_sleeps {σ μ : x_Hp} (h : r_V σ μ T lv N t v) : q_S σ μ (F_X8_sleeps σ) (F_X9_sleeps μ) := by
  rw [F_X8_sleeps, F_X9_sleeps, k_take h, z_take h, x_b_s, x_b_s]
  exact q_sleeps_loop h h.t0 (y_m0.sm μ lv) 240 x_fuel x_fuel 0 v _ _ h.H (by omega) (by decide) (by decide)
theorem q_silk_loop {n s : Nat} (hn : n ≤ 120) (hs : s ≤ 20) : ∀ (d f f' i : Nat) (a : Int32) (σ μ : x_Hp), r_V σ μ T lv N t v → i + d = s → d < f → d < f' → q_S σ μ (F_X8_silk_27 f (nI n) (nI s) a (nI i) σ) (F_X9_silk_27 f' (nI n) (nI s) a (nI i) μ) := by
  intro d
  induction d with
  | zero =>
    intro f f' i a σ μ hV h1 h2 h3
    obtain ⟨f, rfl⟩ : ∃ m, f = m + 1 := ⟨f - 1, by omega⟩
    obtain ⟨f', rfl⟩ : ∃ m, f' = m + 1 := ⟨f' - 1, by omega⟩
    have : i = s := by omega
    subst this
    rw [F_X8_silk_27, F_X9_silk_27, if_pos (nI_le (Nat.le_refl _) (by omega)), if_pos (nI_le (Nat.le_refl _) (by omega))]
    exact q_S.c _ _ _
  | succ d ih =>
    intro f f' i a σ μ hV h1 h2 h3
    obtain ⟨f, rfl⟩ : ∃ m, f = m + 1 := ⟨f - 1, by omega⟩
    obtain ⟨f', rfl⟩ : ∃ m, f' = m + 1 := ⟨f' - 1, by omega⟩
    obtain ⟨n1, n6, n7⟩ := hV.n
    have hJ := hV.2.2.2.2.1
    rw [F_X8_silk_27, F_X9_silk_27, if_neg (nI_ge (by omega) (by omega)), if_neg (nI_ge (by omega) (by omega)), k_take hV, z_take hV, x_b_s, x_b_s, x_pt_s, x_pt_s, x_tx1 x_St37 hV.1, x_hp_put _ _ _ _ (by decide), z_0 _ _ _ (show 50 ≠ 47 by decide), show (y_m0 μ lv).1 0 50 = T.1 1 6 by rw [y_m0, y_set_50, hV.2.1.2.2.2.2.2.2.2.2.1], z_putO _ _ _ (by decide) (by decide) (by decide) (by decide) (Or.inr (by decide))]
    have smp : y_sm μ (x_pI (y_m0 μ lv) 0 50 (T.1 1 6 + nI i)) := (y_m0.sm μ lv).tr (y_sm.put (by unfold y_Sb; omega) _)
    have hT2 : y_Tx (x_pI (y_m0 μ lv) 0 50 (T.1 1 6 + nI i)) T lv N := hV.2.1.agt smp.agt
    have hH : y_H (x_pI (y_m0 μ lv) 0 50 (T.1 1 6 + nI i)) T N (x_u v 16 (T.1 1 6 + nI i)) := by
      rcases hJ.1 with q | q
      · refine Or.inl ((q.k (q.1.u (by omega) _) (fun k hk => x_un _ _ (by omega))).G n6 ?_ ?_)
        · rw [x_pI_1, if_neg (by omega)]; exact y_m0_51 μ lv
        · rw [x_pI_1, if_pos ⟨rfl, rfl⟩, x_ub]
      · exact Or.inr (q.k (fun k hk => x_un _ _ (by omega)))
    have ext : z_hp (x_pI (y_m0 μ lv) 0 50 (T.1 1 6 + nI i)) v (y_sc μ) = z_hp (x_pI (y_m0 μ lv) 0 50 (T.1 1 6 + nI i)) (x_u v 16 (T.1 1 6 + nI i)) (y_sc μ) := z_ext _ _ (fun k hk _ _ _ h16 => (x_un _ _ h16).symm)
    obtain ⟨c2, g⟩ := e_goOn x_St37 hV.1 n x_fuel 0 (x_u v 16 (T.1 1 6 + nI i)) (x_sc σ) (by omega) (by rw [x_fuel]; omega)
    obtain ⟨d2, k⟩ := z_goes hT2 hH (y_sc μ) (k := n) (by omega)
    rw [Nat.zero_add] at g
    have sx : x_sm σ (x_hp σ 37 (m_goes T n (x_u v 16 (T.1 1 6 + nI i))) c2) := x_sm.hp _ _ _
    have sy2 : y_sm μ (z_hp (x_pI (y_m0 μ lv) 0 50 (T.1 1 6 + nI i)) (m_goes T n (x_u v 16 (T.1 1 6 + nI i))) d2) := smp.tr (y_sm.hp _ _ _)
    have e35 : x_gS (x_hp σ 37 (m_goes T n (x_u v 16 (T.1 1 6 + nI i))) c2) 35 = v := by rw [x_gS_hp]; exact hV.2.2.2.1
    have r15 : (z_hp (x_pI (y_m0 μ lv) 0 50 (T.1 1 6 + nI i)) (m_goes T n (x_u v 16 (T.1 1 6 + nI i))) d2).1 31 15 = m_all v 4 := by
      rw [sy2 31 15 (by unfold y_Sb; omega), hV.m13.2.2]
    rw [ext, F_X0_goOn, show (0 : Int32) = nI 0 from rfl, g, x_b_s, e_all x_St37, x_b_s, k_all35 e35, x_b_s, k, x_b_s, r15, z_15, nI_1]
    exact q_S.tr sx sy2 (ih f f' (i + 1) _ _ _ (hV.sm sx sy2) (by omega) (by omega) (by omega))
theorem q_silk {σ μ : x_Hp} (h : r_V σ μ T lv N t v) (x1 x2 : Int32) : q_S σ μ (F_X8_silk x1 x2 σ) (F_X9_silk x1 x2 μ) := by
  rw [F_X8_silk, F_X9_silk]
  refine q_gb x1 0 120 rfl rfl (by decide) (by decide) ?_
  rintro n - n2 rfl
  refine q_gb x2 1 20 rfl rfl (by decide) (by decide) ?_
  rintro s - s2 rfl
  exact q_silk_loop n2 s2 s x_fuel x_fuel 0 0 σ μ h (by omega) (by rw [x_fuel]; omega) (by rw [x_fuel]; omega)
end Q5
