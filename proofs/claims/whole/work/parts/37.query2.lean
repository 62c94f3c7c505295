/-! GUARDS, and the loop of what is least -/
section Q2
variable {T : x_TT} {lv N t : Nat} {v : x_V}
theorem q_least (A : Nat → Int32 → x_Hp → Option (Int32 × x_Hp)) (B : Nat → Int32 → Int32 → Int32 → x_Hp → Option (Int32 × x_Hp)) (i0 M : Nat) (P : Prop) (h0 : i0 < M) (wf : Nat → Int32)
    (hfin : ∀ n n' b l σ μ, r_V σ μ T lv N t v → l_A σ b l → q_S σ μ (A (n + 1) (nI M) σ) (B (n' + 1) b l (nI M) μ))
    (hstep : ∀ n n' i b l σ μ, i0 ≤ i → i < M → (P ∨ ¬ l < 0) → r_V σ μ T lv N t v → (∃ s τ ν, x_sm σ τ ∧ (∀ b, τ.1 167 b = σ.1 167 b) ∧ y_sm μ ν ∧ s < 2 ^ 31 ∧ A (n + 1) (nI i) σ = x_b (F_X2_offer 167 (wf i) (nI s) τ) (fun _ σ8 => A n (nI (i + 1)) σ8) ∧ B (n' + 1) b l (nI i) μ = (if l < 0 then B n' (wf i) (nI s) (nI (i + 1)) ν else if nI s < l then B n' (wf i) (nI s) (nI (i + 1)) ν else B n' b l (nI (i + 1)) ν)) ∨ (i ≠ i0 ∧ ∃ τ ν, x_sm σ τ ∧ (∀ b, τ.1 167 b = σ.1 167 b) ∧ y_sm μ ν ∧ A (n + 1) (nI i) σ = A n (nI (i + 1)) τ ∧ B (n' + 1) b l (nI i) μ = B n' b l (nI (i + 1)) ν)) :
    ∀ (d n n' i : Nat) (b l : Int32) (σ μ : x_Hp), r_V σ μ T lv N t v → i + d = M → i0 ≤ i → d < n → d < n' → ((l_N σ ∧ l < 0 ∧ i = i0 ∧ P) ∨ l_A σ b l) → q_S σ μ (A n (nI i) σ) (B n' b l (nI i) μ) := by
  intro d
  induction d with
  | zero =>
    intro n n' i b l σ μ h h1 hi h2 h3 h4
    obtain ⟨n, rfl⟩ : ∃ m, n = m + 1 := ⟨n - 1, by omega⟩
    obtain ⟨n', rfl⟩ : ∃ m, n' = m + 1 := ⟨n' - 1, by omega⟩
    have : i = M := by omega
    subst this
    rcases h4 with ⟨-, -, q, -⟩ | q
    · omega
    · exact hfin n n' b l σ μ h q
  | succ d ih =>
    intro n n' i b l σ μ h h1 hi h2 h3 h4
    obtain ⟨n, rfl⟩ : ∃ m, n = m + 1 := ⟨n - 1, by omega⟩
    obtain ⟨n', rfl⟩ : ∃ m, n' = m + 1 := ⟨n' - 1, by omega⟩
    have hP : P ∨ ¬ l < 0 := by
      rcases h4 with ⟨-, -, -, q⟩ | q
      · exact Or.inl q
      · exact Or.inr q.2.2.2
    rcases hstep n n' i b l σ μ hi (by omega) hP h with ⟨s, τ, ν, sx, s167, sy, hs, eA, eB⟩ | ⟨hi0, τ, ν, sx, s167, sy, eA, eB⟩
    · have hl : (l_N τ ∧ l < 0) ∨ l_A τ b l := by
        rcases h4 with ⟨p, q, -⟩ | q
        · exact Or.inl ⟨by rw [l_N, s167]; exact p, q⟩
        · exact Or.inr (by rw [l_A, s167, s167, s167]; exact q)
      rw [eA, eB]
      rcases l_offer τ b l (wf i) (nI s) (nI_pos hs) hl with ⟨q, τ2, o, sm, a⟩ | ⟨q, o, a⟩
      · rw [o, x_b_s, i_yes q]
        exact q_S.tr (sx.tr sm) sy (ih n n' (i + 1) (wf i) (nI s) τ2 ν (h.sm (sx.tr sm) sy) (by omega) (by omega) (by omega) (by omega) (Or.inr a))
      · rw [o, x_b_s, i_no q]
        exact q_S.tr sx sy (ih n n' (i + 1) b l τ ν (h.sm sx sy) (by omega) (by omega) (by omega) (by omega) (Or.inr a))
    · rw [eA, eB]
      refine q_S.tr sx sy (ih n n' (i + 1) b l τ ν (h.sm sx sy) (by omega) (by omega) (by omega) (by omega) ?_)
      rcases h4 with ⟨-, -, q, -⟩ | q
      · exact absurd q hi0
      · exact Or.inr (by rw [l_A, s167, s167, s167]; exact q)
theorem q_fin {σ μ : x_Hp} {b l : Int32} (h : l_A σ b l) (x2 : Int32) : q_S σ μ (x_b (F_X2_pick 167 x2 σ) (fun v σ => some (v, σ))) (if x2 = 0 then some (b, μ) else some (l, μ)) := by
  rw [l_pick h, x_b_s, i_pick]; exact q_S.c _ _ _
/-- two stretches of minutes, one behind the other -/
theorem q_two {σ μ : x_Hp} (hV : r_V σ μ T lv N t v) {few n : Nat} (hf : few ≤ n) (hn : n ≤ 240) : ∃ s τ ν, s < 2 ^ 31 ∧ F_X8_criedInSight (nI few) (nI n) σ = some (nI s, τ) ∧ F_X9_cryInSight (nI few) (nI n) μ = some (nI s, ν) ∧ x_sm σ τ ∧ (∀ b, τ.1 167 b = σ.1 167 b) ∧ y_sm μ ν := by
  obtain ⟨n1, n6, n7⟩ := hV.n
  have hJ := hV.2.2.2.2.1.u (k := 8) (by omega) 1
  rw [F_X8_criedInSight, F_X9_cryInSight, k_take hV, z_take hV, x_b_s, x_b_s, x_pt_s, x_pt_s, x_hp_put _ _ _ _ (by decide), z_put _ v _ 8 (k := 9) rfl (by decide) (by decide)]
  obtain ⟨s, c2, d2, hs, g, f⟩ := q_cried hV hJ hV.t0 (J_H hV.2.1 hJ) (x_sc σ) (y_sc μ) (k := few) (by omega)
  rw [g, f, x_b_s, x_b_s]
  have hJ2 := (hJ.goes n7 n6 few).u (k := 8) (by omega) 0
  rw [x_pt_s, x_pt_s, x_hp_put _ _ _ _ (by decide), z_put _ _ _ 8 (k := 9) rfl (by decide) (by decide), pk_sub hf]
  obtain ⟨s2, c3, d3, hs2, g, f⟩ := q_cried hV hJ2 hV.t0 (J_H hV.2.1 hJ2) c2 d2 (k := n - few) (by omega)
  rw [g, f, x_b_s, x_b_s, nI_add]
  exact ⟨s + s2, _, _, by omega, rfl, rfl, x_sm.hp _ _ _, fun b => l_hp _ _ _ b, (y_m0.sm μ lv).tr (y_sm.hp _ _ _)⟩
theorem q_moment {σ μ : x_Hp} (h : r_V σ μ T lv N t v) (x : Int32) : q_S σ μ (F_X8_moment x σ) (F_X9_moment x μ) := by
  rw [F_X8_moment, F_X9_moment]
  refine q_gb x 1 120 rfl rfl (by decide) (by decide) ?_
  rintro n n1 n2 rfl
  obtain ⟨s, τ, ν, -, g, f, sx, -, sy⟩ := q_two h (few := 1) (n := n) n1 (by omega)
  obtain ⟨s2, τ2, ν2, -, g2, f2, sx2, -, sy2⟩ := q_two (h.sm sx sy) (few := 0) (n := n) (by omega) (by omega)
  rw [show (1 : Int32) = nI 1 from rfl, g, f, x_b_s, x_b_s, show (0 : Int32) = nI 0 from rfl, g2, f2, x_b_s, x_b_s]
  exact q_S.d _ (sx.tr sx2) (sy.tr sy2)
theorem q_inSight {σ μ : x_Hp} (h : r_V σ μ T lv N t v) (x1 x2 : Int32) : q_S σ μ (F_X8_inSight x1 x2 σ) (F_X9_inSight x1 x2 μ) := by
  rw [F_X8_inSight, F_X9_inSight]
  refine q_gb x1 1 60 rfl rfl (by decide) (by decide) ?_
  rintro n n1 n2 rfl
  refine q_gb x2 0 1 rfl rfl (by decide) (by decide) ?_
  rintro w - - rfl
  obtain ⟨τ, o, sm, ln⟩ := l_begin σ
  rw [o, x_b_s]
  refine q_S.tr sm (y_sm.rf μ) (q_least (T := T) (lv := lv) (N := N) (t := t) (v := v) (fun n' => F_X8_inSight_30 n' (nI n) (nI w)) (fun n' b l i => F_X9_inSight_29 n' (nI n) (nI w) b l i) 0 (n + 1) True (by omega) nI ?_ ?_ (n + 1) x_fuel x_fuel 0 0 (-1) τ μ (h.sm sm (y_sm.rf μ)) (by omega) (by omega) (by rw [x_fuel]; omega) (by rw [x_fuel]; omega) (Or.inl ⟨ln, by decide, rfl, trivial⟩))
  · intro n' n'' b l σ μ _ ha
    rw [F_X8_inSight_30, F_X9_inSight_29, if_pos (nI_lt (by omega) (by omega)), if_pos (nI_lt (by omega) (by omega))]
    exact q_fin ha _
  · intro n' n'' i b l σ μ _ hi _ hV
    left
    obtain ⟨s, τ, ν, hs, g, f, sx, s167, sy⟩ := q_two hV (few := i) (n := n) (by omega) (by omega)
    refine ⟨s, τ, ν, sx, s167, sy, hs, ?_, ?_⟩
    · rw [F_X8_inSight_30, if_neg (nI_nlt (by omega) (by omega)), g, x_b_s, nI_1]
    · rw [F_X9_inSight_29, if_neg (nI_nlt (by omega) (by omega)), f, x_b_s, F_X9_inSight_59, F_X9_inSight_66, F_X9_inSight_66, nI_1]
theorem q_feedAt {σ μ : x_Hp} (h : r_V σ μ T lv N t v) (x1 x2 : Int32) : q_S σ μ (F_X8_feedAt x1 x2 σ) (F_X9_feedAt x1 x2 μ) := by
  rw [F_X8_feedAt, F_X9_feedAt]
  refine q_gb x1 1 60 rfl rfl (by decide) (by decide) ?_
  rintro n n1 n2 rfl
  refine q_gb x2 0 1 rfl rfl (by decide) (by decide) ?_
  rintro w - - rfl
  refine q_gw h ?_
  intro h0 h13 hW
  obtain ⟨τ, o, sm, ln⟩ := l_begin σ
  rw [o, x_b_s]
  refine q_S.tr sm (y_sm.rf μ) (q_least (T := T) (lv := lv) (N := N) (t := t) (v := v) (fun n' => F_X8_feedAt_40 n' (nI n) (nI w)) (fun n' b l i => F_X9_feedAt_39 n' (nI n) (nI w) b l i) 0 n True (by omega) nI ?_ ?_ n x_fuel x_fuel 0 0 (-1) τ μ (h.sm sm (y_sm.rf μ)) (by omega) (by omega) (by rw [x_fuel]; omega) (by rw [x_fuel]; omega) (Or.inl ⟨ln, by decide, rfl, trivial⟩))
  · intro n' n'' b l σ μ _ ha
    rw [F_X8_feedAt_40, F_X9_feedAt_39, if_pos (nI_le (Nat.le_refl _) (by omega)), if_pos (nI_le (Nat.le_refl _) (by omega))]
    exact q_fin ha _
  · intro n' n'' i b l σ μ _ hi _ hV
    obtain ⟨nn, n6, n7⟩ := hV.n
    have hJ := hV.2.2.2.2.1
    obtain ⟨s, c2, d2, hs, g, f⟩ := q_cried hV hJ hV.t0 hV.H (x_sc σ) (y_sc μ) (k := i) (by omega)
    have hJ2 := hJ.goes n7 n6 i
    have hm : y_sm μ (z_hp (y_m0 μ lv) (m_goes T i v) d2) := (y_m0.sm μ lv).tr (y_sm.hp _ _ _)
    obtain ⟨a, a60, e13⟩ := (hJ2.W h0).1.2.1
    rw [F_X8_feedAt_40, if_neg (nI_ge (by omega) (by omega)), k_take hV, x_b_s, g, x_b_s, x_hp_get _ _ _ _ (by decide)]
    rw [F_X9_feedAt_39, if_neg (nI_ge (by omega) (by omega)), z_take hV, x_b_s, f, x_b_s, z_get _ _ _ 13 (k := 7) rfl (by decide) (by decide), e13]
    rcases Nat.eq_zero_or_pos a with z | z
    · left
      subst z
      have hJ3 := hJ2.feed hV.2.2.1
      rw [if_pos (show nI 0 = 0 from rfl), if_pos (show nI 0 ≤ 0 by decide), e_feed x_St37 hV.1, x_b_s, y_feed hV.t0 hV.2.2.1 (hJ2.W h0).1, x_b_s, pk_sub (by omega)]
      obtain ⟨s2, c3, d3, hs2, g, f⟩ := q_cried hV hJ3 hV.t0 (J_H hV.2.1 hJ3) c2 d2 (k := n - i) (by omega)
      rw [g, f, x_b_s, x_b_s, nI_add]
      refine ⟨s + s2, x_hp σ 37 (m_goes T (n - i) (m_feed T (m_goes T i v))) c3, z_hp (y_m0 μ lv) (m_goes T (n - i) (m_feed T (m_goes T i v))) d3, x_sm.hp _ _ _, fun b => l_hp _ _ _ b, (y_m0.sm μ lv).tr (y_sm.hp _ _ _), by omega, ?_, ?_⟩
      · simp only [F_X8_feedAt_116, nI_1]
      · simp only [F_X9_feedAt_102, F_X9_feedAt_109, nI_1]
    · right
      have hi0 : i ≠ 0 := by
        intro q
        subst q
        have e : m_goes T 0 v = v := rfl
        rw [e, h13] at e13
        have := (nI_eq (by omega) (by omega)).mp e13
        omega
      rw [if_neg (nI_ne0 z (by omega)), if_neg (nI_nle z (by omega)), F_X8_feedAt_116, F_X9_feedAt_109, nI_1]
      exact ⟨hi0, _, _, x_sm.hp _ _ _, fun b => l_hp _ _ _ b, hm, rfl, rfl⟩
end Q2
