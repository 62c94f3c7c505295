/-! MORE QUERIES -/
section Q3
variable {T : x_TT} {lv N t : Nat} {v : x_V}
def m_wish (T : x_TT) (v : x_V) (w : Nat) : x_V := if w = 1 then m_feed T v else if w = 2 then m_fall v else if w = 3 then x_u v 8 (1 - v 8) else if w < 4 then v else m_over T v (nI (w - 4))
theorem m_J.wish (hN6 : N ≤ 6) (hB : m_TB T N) (h0 : 0 < N) (h : m_J T N t v) {w : Nat} (hw : w < 4 + N) : m_J T N (t + 1) (m_wish T v w) := by
  rw [m_wish]
  split
  · exact (h.feed hB).mono (by omega)
  · split
    · exact h.fall h0
    · split
      · exact (h.u (by omega) _).mono (by omega)
      · split
        · exact h.mono (by omega)
        · exact (h.over hN6 hB (by omega)).mono (by omega)
theorem e_grant {σ : x_Hp} (hT : x_Tx σ T) (c : x_Sc) {w : Nat} (hw : w < 2 ^ 31) : F_X8_grant (nI w) (x_hp σ 37 v c) = some ((), x_hp σ 37 (m_wish T v w) c) := by
  have e1 : nI w = 1 ↔ w = 1 := nI_eq (b := 1) (by omega) (by decide)
  have e2 : nI w = 2 ↔ w = 2 := nI_eq (b := 2) (by omega) (by decide)
  have e3 : nI w = 3 ↔ w = 3 := nI_eq (b := 3) (by omega) (by decide)
  rw [F_X8_grant, m_wish]
  by_cases h1 : w = 1
  · rw [if_pos h1, if_pos (e1.mpr h1), e_feed x_St37 hT, x_b_s]
  · rw [if_neg h1, if_neg (fun q => h1 (e1.mp q))]
    by_cases h2 : w = 2
    · rw [if_pos h2, if_pos (e2.mpr h2), e_fall x_St37, x_b_s]
    · rw [if_neg h2, if_neg (fun q => h2 (e2.mp q))]
      by_cases h3 : w = 3
      · rw [if_pos h3, if_pos (e3.mpr h3), x_pt_s, x_hp_get _ _ _ _ (by decide), x_hp_put _ _ _ _ (by decide)]
      · rw [if_neg h3, if_neg (fun q => h3 (e3.mp q))]
        by_cases h4 : w < 4
        · rw [if_pos h4, if_pos (show nI w < (4 : Int32) from nI_lt (b := 4) h4 (by decide))]
        · rw [if_neg h4, if_neg (show ¬ nI w < (4 : Int32) from nI_nlt (b := 4) (by omega) hw), show (4 : Int32) = nI 4 from rfl, pk_sub (by omega), e_over x_St37 hT, x_b_s]
theorem q_m4 {i w : Nat} (hi : i < 2 ^ 30) (hw : w < 2 ^ 30) : nI i - 4 = nI w ↔ 4 ≤ i ∧ i - 4 = w := by
  constructor
  · intro h
    by_cases q : 4 ≤ i
    · rw [show (4 : Int32) = nI 4 from rfl, pk_sub q] at h
      exact ⟨q, (nI_eq (by omega) (by omega)).mp h⟩
    · have := pk_sneg (a := i) (b := 4) (by decide) (by omega)
      rw [show nI 4 = (4 : Int32) from rfl, h] at this
      exact absurd this (nI_pos (by omega))
  · rintro ⟨q, rfl⟩
    rw [show (4 : Int32) = nI 4 from rfl, pk_sub q]
/-- what is cried if a wish is granted, the reference's: -1 where it can't be -/
theorem q_cryIf {σ μ : x_Hp} (hV : r_V σ μ T lv N t v) (h0 : 0 < N) {w k wh : Nat} (hw : w < 4 + N) (h9 : v 9 = nI wh) (hwh : wh < N) (hk : k ≤ 120) :
    (w ≠ wh + 4 ∧ ∃ s c2 ν, s < 2 ^ 31 ∧ F_X0_cried 34 37 (nI k) (x_hp σ 37 (m_wish T v w) (x_sc σ)) = some (nI s, x_hp σ 37 (m_goes T k (m_wish T v w)) c2) ∧ F_X9_cryIf (nI w) (nI k) μ = some (nI s, ν) ∧ y_sm μ ν) ∨ (w = wh + 4 ∧ ∃ ν, F_X9_cryIf (nI w) (nI k) μ = some (-1, ν) ∧ y_sm μ ν) := by
  obtain ⟨n1, n6, n7⟩ := hV.n
  have hJ := hV.2.2.2.2.1
  have hI := (hJ.W h0).1
  have hJ2 := hJ.wish n6 hV.2.2.1 h0 hw
  obtain ⟨s, c2, d2, hs, g, f⟩ := q_cried hV hJ2 hV.t0 (J_H hV.2.1 hJ2) (x_sc σ) (y_sc μ) (k := k) (by omega)
  have hm : ∀ u d, y_sm μ (z_hp (y_m0 μ lv) u d) := fun u d => (y_m0.sm μ lv).tr (y_sm.hp _ _ _)
  have e1 : nI w = 1 ↔ w = 1 := nI_eq (b := 1) (by omega) (by decide)
  have e2 : nI w = 2 ↔ w = 2 := nI_eq (b := 2) (by omega) (by decide)
  have e3 : nI w = 3 ↔ w = 3 := nI_eq (b := 3) (by omega) (by decide)
  have le3 : w ≤ 3 → nI w ≤ 3 := fun q => (show nI w ≤ nI 3 from nI_le q (by decide))
  have nle3 : ¬ w ≤ 3 → ¬ nI w ≤ 3 := fun q => (show ¬ nI w ≤ nI 3 from nI_ge (by omega) (by omega))
  have fin : ∀ u, u = m_wish T v w → ∃ ν, F_X9_cryIf_74 (nI k) (z_hp (y_m0 μ lv) u (y_sc μ)) = some (nI s, ν) ∧ y_sm μ ν := by
    rintro u rfl
    rw [F_X9_cryIf_74, f, x_b_s]
    exact ⟨_, rfl, hm _ _⟩
  rw [F_X9_cryIf, z_take hV, x_b_s]
  by_cases h1 : w = 1
  · left
    refine ⟨by omega, s, c2, ?_⟩
    obtain ⟨ν, a, b⟩ := fin (m_feed T v) (by rw [m_wish, if_pos h1])
    refine ⟨ν, by omega, g, ?_, b⟩
    rw [if_pos (e1.mpr h1), y_feed hV.t0 hV.2.2.1 hI, x_b_s, F_X9_cryIf_13, if_neg (by rw [e2]; omega), F_X9_cryIf_22, if_neg (by rw [e3]; omega), F_X9_cryIf_43, if_pos (le3 (by omega)), F_X9_cryIf_62, if_pos (le3 (by omega))]
    exact a
  · rw [if_neg (by rw [e1]; exact h1), F_X9_cryIf_13]
    by_cases h2 : w = 2
    · left
      refine ⟨by omega, s, c2, ?_⟩
      obtain ⟨ν, a, b⟩ := fin (m_fall v) (by rw [m_wish, if_neg h1, if_pos h2])
      refine ⟨ν, by omega, g, ?_, b⟩
      rw [if_pos (e2.mpr h2), y_fall, x_b_s, F_X9_cryIf_22, if_neg (by rw [e3]; omega), F_X9_cryIf_43, if_pos (le3 (by omega)), F_X9_cryIf_62, if_pos (le3 (by omega))]
      exact a
    · rw [if_neg (by rw [e2]; exact h2), F_X9_cryIf_22]
      by_cases h3 : w = 3
      · left
        refine ⟨by omega, s, c2, ?_⟩
        obtain ⟨ν, a, b⟩ := fin (x_u v 8 (1 - v 8)) (by rw [m_wish, if_neg h1, if_neg h2, if_pos h3])
        refine ⟨ν, by omega, g, ?_, b⟩
        rw [if_pos (e3.mpr h3), x_pt_s, z_get _ _ _ 8 (k := 9) rfl (by decide) (by decide), z_put _ _ _ 8 (k := 9) rfl (by decide) (by decide), F_X9_cryIf_43, if_pos (le3 (by omega)), F_X9_cryIf_62, if_pos (le3 (by omega))]
        exact a
      · rw [if_neg (by rw [e3]; exact h3), F_X9_cryIf_43]
        by_cases h4 : w < 4
        · left
          refine ⟨by omega, s, c2, ?_⟩
          obtain ⟨ν, a, b⟩ := fin v (by rw [m_wish, if_neg h1, if_neg h2, if_neg h3, if_pos h4])
          refine ⟨ν, by omega, g, ?_, b⟩
          rw [if_pos (le3 (by omega)), F_X9_cryIf_62, if_pos (le3 (by omega))]
          exact a
        · rw [if_neg (nle3 (by omega)), z_get _ _ _ 9 (k := 4) rfl (by decide) (by decide), h9]
          by_cases hq : w = wh + 4
          · right
            rw [if_pos ((q_m4 (by omega) (by omega)).mpr (by omega))]
            exact ⟨hq, _, rfl, hm _ _⟩
          · left
            refine ⟨hq, s, c2, ?_⟩
            obtain ⟨ν, a, b⟩ := fin (m_over T v (nI (w - 4))) (by rw [m_wish, if_neg h1, if_neg h2, if_neg h3, if_neg h4])
            refine ⟨ν, by omega, g, ?_, b⟩
            rw [if_neg (by rw [q_m4 (by omega) (by omega)]; omega), F_X9_cryIf_62, if_neg (nle3 (by omega)), show (4 : Int32) = nI 4 from rfl, pk_sub (by omega), y_hands hV.t0 hV.2.2.1 hI _ (by omega), x_b_s]
            exact a
theorem q_wants {σ μ : x_Hp} (h : r_V σ μ T lv N t v) (x1 x2 : Int32) : q_S σ μ (F_X8_wants x1 x2 σ) (F_X9_wants x1 x2 μ) := by
  rw [F_X8_wants, F_X9_wants]
  refine q_gb x1 1 120 rfl rfl (by decide) (by decide) ?_
  rintro n n1 n2 rfl
  refine q_gb x2 0 1 rfl rfl (by decide) (by decide) ?_
  rintro w - - rfl
  refine q_gw h ?_
  intro h0 h13 hW
  obtain ⟨wh, hwh, h9⟩ := hW.1.1
  obtain ⟨τ, o, sm, ln⟩ := l_begin σ
  rw [o, x_b_s]
  have n1 := h.n.1
  have n6 := h.n.2.1
  have hV := h.sm sm (y_sm.rf μ)
  -- the first wish: to go on
  rcases q_cryIf hV h0 (w := 0) (k := n) (by omega) h9 hwh n2 with ⟨-, s, c2, ν, hs, g, f, sy⟩ | ⟨q, -⟩
  · have f0 : F_X9_cryIf 0 (nI n) μ = some (nI s, ν) := f
    rw [f0, x_b_s, show x_fuel = 65535 + 1 from rfl, F_X8_wants_40, hV.n.1, if_neg (show ¬ (4 : Int32) + nI N ≤ 0 by rw [show (4 : Int32) = nI 4 from rfl, nI_add]; exact nI_nle (by omega) (by omega)), hV.g (by decide), h9, if_neg (by intro q; have := (q_m4 (i := 0) (w := wh) (by decide) (by omega)).mp q; omega), k_take hV, x_b_s, show (0 : Int32) = nI 0 from rfl, e_grant hV.1 _ (by decide), x_b_s, g, x_b_s]
    have sx : x_sm τ (x_hp τ 37 (m_goes T n (m_wish T v 0)) c2) := x_sm.hp _ _ _
    rcases l_offer (x_hp τ 37 (m_goes T n (m_wish T v 0)) c2) 0 (-1) (nI 0) (nI s) (nI_pos hs) (Or.inl ⟨ln.hp, by decide⟩) with ⟨-, τ2, o2, sm2, a⟩ | ⟨⟨q, -⟩, -⟩
    · rw [o2, x_b_s, F_X8_wants_102, nI_1]
      refine q_S.tr ((sm.tr sx).tr sm2) sy (q_least (T := T) (lv := lv) (N := N) (t := t) (v := v) (fun n' => F_X8_wants_40 n' (nI n) (nI w)) (fun n' b l i => F_X9_wants_44 n' (nI n) (nI w) b l i) 0 (4 + N) False (by omega) nI ?_ ?_ (3 + N) 65535 (65535 + 1) 1 0 (nI s) τ2 ν (h.sm ((sm.tr sx).tr sm2) sy) (by omega) (by omega) (by omega) (by omega) (Or.inr a))
      · intro n' n'' b l σ μ hV ha
        obtain ⟨n1, n6, n7⟩ := hV.n
        obtain ⟨hlv, y18, y10⟩ := hV.y18
        have e4 : (4 : Int32) + nI N = nI (4 + N) := nI_add 4 N
        rw [F_X8_wants_40, F_X9_wants_44, n1, e4, if_pos (nI_le (Nat.le_refl _) (by omega)), y18, x_gd_t (x_inb_nI hlv (by decide)), x_ix_nI (by omega), y10, e4, if_pos (nI_le (Nat.le_refl _) (by omega))]
        exact q_fin ha _
      · intro n' n'' i b l σ μ _ hi hP hV
        obtain ⟨n1, n6, n7⟩ := hV.n
        obtain ⟨hlv, y18, y10⟩ := hV.y18
        have e4 : (4 : Int32) + nI N = nI (4 + N) := nI_add 4 N
        rw [F_X8_wants_40, F_X9_wants_44, n1, e4, if_neg (nI_ge (by omega) (by omega)), y18, x_gd_t (x_inb_nI hlv (by decide)), x_ix_nI (by omega), y10, e4, if_neg (nI_ge (by omega) (by omega)), hV.g (by decide), h9]
        rcases q_cryIf hV h0 (w := i) (k := n) (by omega) h9 hwh n2 with ⟨q, s, c2, ν, hs, g, f, sy⟩ | ⟨q, ν, f, sy⟩
        · left
          rw [if_neg (by rw [q_m4 (by omega) (by omega)]; omega), k_take hV, x_b_s, e_grant hV.1 _ (by omega), x_b_s, g, x_b_s, f, x_b_s, if_neg (nI_pos hs)]
          refine ⟨s, x_hp σ 37 (m_goes T n (m_wish T v i)) c2, ν, x_sm.hp _ _ _, fun b => l_hp _ _ _ b, sy, hs, ?_, ?_⟩
          · simp only [F_X8_wants_102, nI_1]
          · simp only [F_X9_wants_91, nI_1]
            rw [if_neg (hP.resolve_left id)]
        · right
          rw [if_pos ((q_m4 (by omega) (by omega)).mpr (by omega)), f, x_b_s, if_pos (by decide), F_X8_wants_102, F_X9_wants_91, nI_1]
          exact ⟨by omega, σ, ν, x_sm.rf _, fun _ => rfl, sy, rfl, rfl⟩
    · exact absurd (by decide) q
  · omega
end Q3
section Q4
variable {T : x_TT} {lv N t : Nat} {v : x_V}
theorem q_beat {σ μ : x_Hp} (h : r_V σ μ T lv N t v) (x0 x1 x2 : Int32) : q_S σ μ (F_X8_beat x0 x1 x2 σ) (F_X9_beat x0 x1 x2 μ) := by
  rw [F_X8_beat, F_X9_beat]
  refine q_ga h x0 ?_
  rintro a ha rfl
  refine q_gb x1 1 120 rfl rfl (by decide) (by decide) ?_
  rintro n n1 n2 rfl
  refine q_gb x2 0 1 rfl rfl (by decide) (by decide) ?_
  rintro w - - rfl
  have h0 : 0 < N := by omega
  obtain ⟨a13, h60, e13⟩ := (h.2.2.2.2.1.W h0).1.2.1
  rw [h.g (by decide)]
  rcases q_awake h with ⟨-, qw, -, h13, hW⟩ | ⟨-, qw, hz⟩
  · rw [qw, x_b_s, if_neg (show ¬ (1 : Int32) = 0 by decide), h13, if_pos (show nI 0 ≤ 0 by decide)]
    obtain ⟨τ, o, sm, ln⟩ := l_begin σ
    rw [o, x_b_s]
    refine q_S.tr sm (y_sm.rf μ) (q_least (T := T) (lv := lv) (N := N) (t := t) (v := v) (fun n' => F_X8_beat_52 n' (nI a) (nI n) (nI w)) (fun n' b l i => F_X9_beat_48 n' (nI a) (nI n) (nI w) b l i) 0 10 True (by omega) nI ?_ ?_ 10 x_fuel x_fuel 0 0 (-1) τ μ (h.sm sm (y_sm.rf μ)) (by omega) (by omega) (by decide) (by decide) (Or.inl ⟨ln, by decide, rfl, trivial⟩))
    · intro n' n'' b l σ μ _ hA
      rw [F_X8_beat_52, F_X9_beat_48, if_pos (show (9 : Int32) < nI 10 by decide), if_pos (show (10 : Int32) ≤ nI 10 by decide)]
      exact q_fin hA _
    · intro n' n'' i b l σ μ _ hi _ hV
      left
      obtain ⟨-, n6, n7⟩ := hV.n
      have hJ := hV.2.2.2.2.1
      -- she has it, or it is handed to her
      have both : ∀ u, m_J T N t u → u 9 = nI a → ∃ s τ ν, x_sm σ τ ∧ (∀ b, τ.1 167 b = σ.1 167 b) ∧ y_sm μ ν ∧ s < 2 ^ 31 ∧ F_X8_beat_93 (F_X8_beat_52 n') (nI a) (nI n) (nI w) (nI i) (x_hp σ 37 u (x_sc σ)) = x_b (F_X2_offer 167 (nI i) (nI s) τ) (fun _ σ8 => F_X8_beat_52 n' (nI a) (nI n) (nI w) (nI (i + 1)) σ8) ∧ F_X9_beat_74 (F_X9_beat_48 n'') (nI a) (nI n) (nI w) b l (nI i) (z_hp (y_m0 μ lv) u (y_sc μ)) = (if l < 0 then F_X9_beat_48 n'' (nI a) (nI n) (nI w) (nI i) (nI s) (nI (i + 1)) ν else if nI s < l then F_X9_beat_48 n'' (nI a) (nI n) (nI w) (nI i) (nI s) (nI (i + 1)) ν else F_X9_beat_48 n'' (nI a) (nI n) (nI w) b l (nI (i + 1)) ν) := by
        intro u hu u9
        have uW := hu.W h0
        have smp : y_sm μ (x_pI (x_pI (y_m0 μ lv) 0 51 (nI a)) 0 52 (nI i)) := ((y_m0.sm μ lv).tr (y_sm.put (by unfold y_Sb; omega) _)).tr (y_sm.put (by unfold y_Sb; omega) _)
        have hT2 : y_Tx (x_pI (x_pI (y_m0 μ lv) 0 51 (nI a)) 0 52 (nI i)) T lv N := hV.2.1.agt smp.agt
        obtain ⟨hI, w', hw', e9, e5, e6, e7⟩ := id uW
        have wa : w' = a := (nI_eq (by omega) (by omega)).mp (e9.symm.trans u9)
        subst wa
        have hI2 : m_I N (x_u u 5 (nI i)) := hI.u (by omega) _
        have hG : y_G (x_pI (x_pI (y_m0 μ lv) 0 51 (nI w')) 0 52 (nI i)) T N (x_u u 5 (nI i)) := by
          refine ⟨hI2, w', hw', by rw [x_un _ _ (by decide)]; exact e9, ?_, by rw [x_un _ _ (by decide)]; exact e6, by rw [x_un _ _ (by decide)]; exact e7, ?_⟩
          · have r51 : (x_pI (x_pI (y_m0 μ lv) 0 51 (nI w')) 0 52 (nI i)).1 0 51 = nI w' := by rw [x_pI_1, if_neg (by omega), x_pI_1, if_pos ⟨rfl, rfl⟩]
            have r52 : (x_pI (x_pI (y_m0 μ lv) 0 51 (nI w')) 0 52 (nI i)).1 0 52 = nI i := by rw [x_pI_1, if_pos ⟨rfl, rfl⟩]
            rw [r51, r52, if_pos rfl, x_ub]
          · rw [x_pI_1, if_neg (by omega), x_pI_1, if_neg (by omega), x_un _ _ (by decide), hu.2.1, y_m0, y_set_50, hV.2.1.2.2.2.2.2.2.2.2.1]
        have ext : z_hp (x_pI (x_pI (y_m0 μ lv) 0 51 (nI w')) 0 52 (nI i)) u (y_sc μ) = z_hp (x_pI (x_pI (y_m0 μ lv) 0 51 (nI w')) 0 52 (nI i)) (x_u u 5 (nI i)) (y_sc μ) := z_ext _ _ (fun k hk h5 _ _ _ => (x_un _ _ h5).symm)
        obtain ⟨c2, g⟩ := e_cried x_St37 hV.1 (x_u u 5 (nI i)) (x_sc σ) (k := n) (by omega)
        obtain ⟨d2, f⟩ := y_cries hT2 hG (y_sc μ) (k := n) (by omega)
        -- the sum is a number
        have sumN : ∃ s, s ≤ 99 * n ∧ m_all (m_goes T n (x_u u 5 (nI i))) 1 - m_all (x_u u 5 (nI i)) 1 = nI s := m_cryN n7 n6 n (Or.inl hI2)
        obtain ⟨s, hs, es⟩ := sumN
        rw [es] at g f
        rw [F_X8_beat_93, x_pt_s, x_hp_put _ _ _ _ (by decide), g, x_b_s, F_X9_beat_74, x_pt_s, z_putO _ _ _ (by decide) (by decide) (by decide) (by decide) (Or.inr (by decide)), x_pt_s, z_putO _ _ _ (by decide) (by decide) (by decide) (by decide) (Or.inr (by decide)), ext, f, x_b_s]
        refine ⟨s, x_hp σ 37 (m_goes T n (x_u u 5 (nI i))) c2, z_hp (x_pI (x_pI (y_m0 μ lv) 0 51 (nI w')) 0 52 (nI i)) (m_goes T n (x_u u 5 (nI i))) d2, x_sm.hp _ _ _, fun b => l_hp _ _ _ b, smp.tr (y_sm.hp _ _ _), by omega, ?_, ?_⟩
        · simp only [nI_1]
        · simp only [F_X9_beat_107, F_X9_beat_115, nI_1]
      rw [F_X8_beat_52, F_X9_beat_48, if_neg (show ¬ (9 : Int32) < nI i from nI_nlt (a := 9) (b := i) (by omega) (by decide)), if_neg (show ¬ (10 : Int32) ≤ nI i from nI_ge (b := 10) (by omega) (by decide)), k_take hV, x_b_s, z_take hV, x_b_s, x_hp_get _ _ _ _ (by decide), z_get _ _ _ 9 (k := 4) rfl (by decide) (by decide)]
      by_cases h9 : v 9 = nI a
      · rw [if_pos h9.symm, if_pos h9]; exact both v hJ h9
      · rw [if_neg (fun q => h9 q.symm), if_neg h9, e_over x_St37 hV.1, x_b_s, y_hands hV.t0 hV.2.2.1 (hJ.W h0).1 _ ha, x_b_s]
        exact both _ (hJ.over n6 hV.2.2.1 ha) (by rw [m_over]; exact (m_give_9 T _ _).1)
  · rw [qw, x_b_s, if_pos (show (0 : Int32) = 0 from rfl)]
    have : ¬ v 13 ≤ 0 := by
      rcases hz with q | q
      · omega
      · intro r; rw [Int32.lt_iff_toInt_lt] at q; rw [Int32.le_iff_toInt_le] at r; omega
    rw [if_neg this]; exact q_S.c _ _ _
end Q4
