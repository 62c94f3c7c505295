/-! THE REFERENCE: minutes, handed on, fed, the row taken anew -/
def y_G (μ : x_Hp) (T : x_TT) (N : Nat) (v : x_V) : Prop := m_I N v ∧ ∃ w, w < N ∧ y_C μ T v w
theorem y_C.step {μ : x_Hp} {T : x_TT} {v : x_V} {w : Nat} (h : y_C μ T v w) : y_C μ T (m_step T v) w := by
  obtain ⟨a, b, c, d, e⟩ := h
  refine ⟨?_, ?_, ?_, ?_, ?_⟩
  · rw [m_step_k T v (by unfold m_fix; omega)]; exact a
  · rw [m_step_k T v (by unfold m_fix; omega)]; exact b
  · rw [m_step_k T v (by unfold m_fix; omega)]; exact c
  · rw [m_step_k T v (by unfold m_fix; omega)]; exact d
  · rw [m_step_k T v (by unfold m_fix; omega)]; exact e
theorem y_rv_ext {v u : x_V} (h : ∀ k, k < 62 → k ≠ 5 → k ≠ 6 → k ≠ 7 → k ≠ 16 → v k = u k) (k : Nat) (hk : k < 60) : y_rv v k = y_rv u k := by
  have hm : ∀ p, p < 7 → m_all v (nI p) = m_all u (nI p) := by
    intro p hp
    rw [m_all_nI _ hp, m_all_nI _ hp, h (20 + p) (by omega) (by omega) (by omega) (by omega) (by omega), h (27 + p) (by omega) (by omega) (by omega) (by omega) (by omega), h (34 + p) (by omega) (by omega) (by omega) (by omega) (by omega), h (41 + p) (by omega) (by omega) (by omega) (by omega) (by omega), h (48 + p) (by omega) (by omega) (by omega) (by omega) (by omega), h (55 + p) (by omega) (by omega) (by omega) (by omega) (by omega)]
  have b1 : m_all v 1 = m_all u 1 := hm 1 (by decide)
  have b2 : m_all v 2 = m_all u 2 := hm 2 (by decide)
  have b4 : m_all v 4 = m_all u 4 := hm 4 (by decide)
  have g : ∀ k, k < 20 → k ≠ 5 → k ≠ 6 → k ≠ 7 → k ≠ 16 → v k = u k := fun k h1 => h k (by omega)
  simp only [y_rv]
  by_cases h20 : k < 20
  · rw [if_pos h20, if_pos h20, y_lo, y_lo, b1, b2, b4, g 0 (by decide) (by decide) (by decide) (by decide) (by decide), g 1 (by decide) (by decide) (by decide) (by decide) (by decide), g 2 (by decide) (by decide) (by decide) (by decide) (by decide), g 3 (by decide) (by decide) (by decide) (by decide) (by decide), g 4 (by decide) (by decide) (by decide) (by decide) (by decide), g 8 (by decide) (by decide) (by decide) (by decide) (by decide), g 9 (by decide) (by decide) (by decide) (by decide) (by decide), g 10 (by decide) (by decide) (by decide) (by decide) (by decide), g 11 (by decide) (by decide) (by decide) (by decide) (by decide), g 12 (by decide) (by decide) (by decide) (by decide) (by decide), g 13 (by decide) (by decide) (by decide) (by decide) (by decide), g 14 (by decide) (by decide) (by decide) (by decide) (by decide), g 15 (by decide) (by decide) (by decide) (by decide) (by decide), g 17 (by decide) (by decide) (by decide) (by decide) (by decide), g 18 (by decide) (by decide) (by decide) (by decide) (by decide), g 19 (by decide) (by decide) (by decide) (by decide) (by decide)]
  · rw [if_neg h20, if_neg h20]
    by_cases h56 : k < 56
    · rw [if_pos h56, if_pos h56]
      have hb : y_col ((k - 20) / 6) ≤ 6 := by rw [y_col]; split <;> omega
      exact h _ (by omega) (by omega) (by omega) (by omega) (by omega)
    · rw [if_neg h56, if_neg h56]
theorem z_ext (μ : x_Hp) {v u : x_V} (c : y_Sc) (h : ∀ k, k < 62 → k ≠ 5 → k ≠ 6 → k ≠ 7 → k ≠ 16 → v k = u k) : z_hp μ v c = z_hp μ u c := y_hp_congr μ c (fun k hk => y_rv_ext h k hk)
theorem z_13 (μ : x_Hp) (v : x_V) (c : y_Sc) : (z_hp μ v c).1 32 13 = m_all v 1 := by
  rw [z_hp, y_row _ _ _ (by decide), y_rv, if_pos (by decide), y_lo]; rfl
theorem z_14 (μ : x_Hp) (v : x_V) (c : y_Sc) : (z_hp μ v c).1 32 14 = m_all v 2 := by
  rw [z_hp, y_row _ _ _ (by decide), y_rv, if_pos (by decide), y_lo]; rfl
theorem z_15 (μ : x_Hp) (v : x_V) (c : y_Sc) : (z_hp μ v c).1 32 15 = m_all v 4 := by
  rw [z_hp, y_row _ _ _ (by decide), y_rv, if_pos (by decide), y_lo]; rfl
section RD
variable {μ : x_Hp} {T : x_TT} {lv N : Nat}
theorem y_G.step (hT : y_Tx μ T lv N) {v : x_V} (h : y_G μ T N v) : y_G μ T N (m_step T v) := by
  obtain ⟨h1, w, hw, hC⟩ := h
  exact ⟨h1.step hT.2.2.2.1 hT.2.1, w, hw, hC.step⟩
theorem y_G.goes (hT : y_Tx μ T lv N) : ∀ (d : Nat) {v : x_V}, y_G μ T N v → y_G μ T N (m_goes T d v) := by
  intro d
  induction d with
  | zero => intro v h; exact h
  | succ d ih => intro v h; exact ih (h.step hT)
theorem y_stepG (hT : y_Tx μ T lv N) {v : x_V} (h : y_G μ T N v) (c : y_Sc) : ∃ c2, F_X9_minuteGoes (z_hp μ v c) = some ((), z_hp μ (m_step T v) c2) := by
  obtain ⟨h1, w, hw, hC⟩ := h
  exact y_step hT hw hC h1.2.1 c
theorem y_goes (hT : y_Tx μ T lv N) : ∀ (d n i : Nat) (v : x_V) (c : y_Sc), y_G μ T N v → i + d < 2 ^ 31 → d < n → ∃ c2, F_X9_goes_2 n (nI (i + d)) (nI i) (z_hp μ v c) = some ((), z_hp μ (m_goes T d v) c2) := by
  intro d
  induction d with
  | zero =>
    intro n i v c hG h1 h2
    obtain ⟨n, rfl⟩ : ∃ m, n = m + 1 := ⟨n - 1, by omega⟩
    rw [F_X9_goes_2, if_pos (by simp)]
    exact ⟨c, rfl⟩
  | succ d ih =>
    intro n i v c hG h1 h2
    obtain ⟨n, rfl⟩ : ∃ m, n = m + 1 := ⟨n - 1, by omega⟩
    rw [F_X9_goes_2, if_neg (nI_ge (by omega) (by omega))]
    refine y_be (h := fun c => z_hp μ _ c) (g := fun c => z_hp μ _ c) (y_stepG hT hG c) (fun c => ?_)
    have := ih n (i + 1) (m_step T v) c (hG.step hT) (by omega) (by omega)
    rw [show i + 1 + d = i + (d + 1) by omega, ← nI_1] at this
    exact this
theorem y_goesN (hT : y_Tx μ T lv N) {v : x_V} (hG : y_G μ T N v) (c : y_Sc) {k : Nat} (hk : k < 60000) : ∃ c2, F_X9_goes (nI k) (z_hp μ v c) = some ((), z_hp μ (m_goes T k v) c2) := by
  have := y_goes hT k x_fuel 0 v c hG (by omega) (by rw [x_fuel]; omega)
  rw [Nat.zero_add] at this
  exact this
theorem y_cries (hT : y_Tx μ T lv N) {v : x_V} (hG : y_G μ T N v) (c : y_Sc) {k : Nat} (hk : k < 60000) : ∃ c2, F_X9_cries (nI k) (z_hp μ v c) = some (m_all (m_goes T k v) 1 - m_all v 1, z_hp μ (m_goes T k v) c2) := by
  rw [F_X9_cries, z_13]
  refine y_be (h := fun c => z_hp μ _ c) (g := fun c => z_hp μ _ c) (y_goesN hT hG c hk) (fun c => ⟨c, ?_⟩)
  rw [z_13]
theorem x_wi_min {n : Nat} (h : n < 2 ^ 31) : x_wi (nI n) 0 99 = if nI n < 99 then nI n else 99 := by
  rw [x_wi]
  by_cases h1 : nI n < 99
  · rw [if_pos h1]
    by_cases h2 : (0 : Int32) < nI n
    · rw [if_pos h2]
    · rw [if_neg h2]
      have : n = 0 := by
        rcases Nat.eq_zero_or_pos n with q | q
        · exact q
        · exact absurd (nI_lt (a := 0) q h) h2
      rw [this]; rfl
  · rw [if_neg h1]; rfl
theorem y_hands (hT : y_Tx μ T lv N) (hB : m_TB T N) {v : x_V} (hI : m_I N v) (c : y_Sc) {b : Nat} (hb : b < N) : F_X9_hands (nI b) (z_hp μ v c) = some ((), z_hp μ (m_over T v (nI b)) c) := by
  have hN : N ≤ 6 := hT.2.1
  have k50 : ∀ u : x_V, F_X9_hands_50 (nI b) (z_hp μ u c) = some ((), z_hp μ (m_give T (m_ov u) (nI b)) c) := by
    intro u
    rw [F_X9_hands_50, x_pt_s, z_get μ _ c 10 (k := 10) rfl (by decide) (by decide), z_put μ _ c 11 (k := 11) rfl (by decide) (by decide), x_pt_s, z_get μ _ c 9 (k := 4) rfl (by decide) (by decide), z_put μ _ c 10 (k := 10) rfl (by decide) (by decide), x_pt_s, z_put μ _ c 9 (k := 4) rfl (by decide) (by decide), x_pt_s, z_put μ _ c 4 (k := 5) rfl (by decide) (by decide), x_pt_s, z_get μ _ c 18 (k := 17) rfl (by decide) (by decide), z_put μ _ c 18 (k := 17) rfl (by decide) (by decide), x_pt_s, z_get μ _ c 19 (k := 18) rfl (by decide) (by decide), z_put μ _ c 19 (k := 18) rfl (by decide) (by decide)]
    refine congrArg (fun z => some ((), z)) (z_ext μ c (fun k hk h5 h6 h7 h16 => ?_))
    rw [m_give, if_neg (nI_pos (by omega))]
    simp only [m_gv, m_ov, x_u]
    by_cases e19 : k = 19
    · subst e19; rfl
    · by_cases e18 : k = 18
      · subst e18; rfl
      · by_cases e4 : k = 4
        · subst e4; rfl
        · by_cases e9 : k = 9
          · subst e9; rfl
          · by_cases e10 : k = 10
            · subst e10; rfl
            · by_cases e11 : k = 11
              · subst e11; rfl
              · simp [e19, e18, e4, e9, e10, e11, h5, h6, h7]
  obtain ⟨hlv, -, h18, -, -, -, hf, -⟩ := hT
  obtain ⟨⟨f, f99, ef⟩, -⟩ := hB
  obtain ⟨x, x99, ex⟩ := hI.2.2.1
  rw [F_X9_hands, z_get μ _ c 10 (k := 10) rfl (by decide) (by decide), z_get μ _ c 11 (k := 11) rfl (by decide) (by decide), m_over, m_fr]
  by_cases h1 : nI b = v 10
  · rw [if_pos h1, if_pos h1]; exact k50 v
  · rw [if_neg h1, if_neg h1]
    by_cases h2 : nI b = v 11
    · rw [if_pos h2, if_pos h2]; exact k50 v
    · rw [if_neg h2, if_neg h2, z_0 μ _ c (by decide), h18, x_gd_t (x_inb_nI hlv (by decide)), x_ix_nI (by omega), z_lo μ _ c (a := 16) _ (by decide) (by decide), hf, z_get μ _ c 2 (k := 2) rfl (by decide) (by decide), y_held_wi (by decide), x_b_s, x_pt_s, z_put μ _ c 2 (k := 2) rfl (by decide) (by decide), k50, ex, ef, nI_add, x_wi_min (by omega)]
theorem y_feed (hT : y_Tx μ T lv N) (hB : m_TB T N) {v : x_V} (hI : m_I N v) (c : y_Sc) : F_X9_feedsNow (z_hp μ v c) = some ((), z_hp μ (m_feed T v) c) := by
  obtain ⟨hlv, -, h18, -, -, -, -, hf, -⟩ := hT
  obtain ⟨-, ⟨f, f99, ef⟩, -⟩ := hB
  obtain ⟨x, x99, ex⟩ := hI.2.2.2.1
  rw [F_X9_feedsNow, x_pt_s, z_put μ _ c 0 (k := 0) rfl (by decide) (by decide), z_0 μ _ c (by decide), h18, x_gd_t (x_inb_nI hlv (by decide)), x_ix_nI (by omega), z_lo μ _ c (a := 17) _ (by decide) (by decide), hf, z_get μ _ c 3 (k := 3) rfl (by decide) (by decide), y_held_wi (by decide), x_b_s, x_pt_s, z_put μ _ c 3 (k := 3) rfl (by decide) (by decide), x_un _ _ (by decide), m_feed, ex, ef, nI_add, x_wi_min (by omega)]
end RD
