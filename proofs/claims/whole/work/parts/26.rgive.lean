/-! HANDED ON BY A RULE, the reference's -/
theorem m_give_9 (T : x_TT) (v : x_V) (a : Int32) : m_give T v a 9 = a ∧ m_give T v a 5 = m_atT T 3 6 a ∧ m_give T v a 6 = m_atT T 4 6 a ∧ m_give T v a 7 = m_atT T 5 6 a := by
  have g : m_gv T v a 9 = a ∧ m_gv T v a 5 = m_atT T 3 6 a ∧ m_gv T v a 6 = m_atT T 4 6 a ∧ m_gv T v a 7 = m_atT T 5 6 a := ⟨rfl, rfl, rfl, rfl⟩
  rw [m_give]
  split
  · exact g
  · rw [x_un _ _ (by decide), x_un _ _ (by decide), x_un _ _ (by decide), x_un _ _ (by decide)]; exact g
theorem m_give_k (T : x_TT) (v : x_V) (a : Int32) {k : Nat} (h : k ≠ 9 ∧ k ≠ 4 ∧ k ≠ 5 ∧ k ≠ 6 ∧ k ≠ 7 ∧ k ≠ 19) : m_give T v a k = v k := by
  have g : m_gv T v a k = v k := by
    rw [m_gv, x_un _ _ (by omega), x_un _ _ (by omega), x_un _ _ (by omega), x_un _ _ (by omega), x_un _ _ (by omega)]
  rw [m_give]
  split
  · exact g
  · rw [x_un _ _ (by omega)]; exact g
theorem m_fr_k (T : x_TT) (v : x_V) (a : Int32) {k : Nat} (h : k ≠ 2) : m_fr T v a k = v k := by
  rw [m_fr]
  split
  · rfl
  · split
    · rfl
    · rw [x_un _ _ h]
theorem m_over_k (T : x_TT) (v : x_V) (a : Int32) {k : Nat} (h : k ≠ 9 ∧ k ≠ 4 ∧ k ≠ 5 ∧ k ≠ 6 ∧ k ≠ 7 ∧ k ≠ 19 ∧ k ≠ 2 ∧ k ≠ 10 ∧ k ≠ 11 ∧ k ≠ 18) : m_over T v a k = v k := by
  rw [m_over, m_give_k T _ a (by omega), m_ov, x_un _ _ (by omega), x_un _ _ (by omega), x_un _ _ (by omega), m_fr_k T v a (by omega)]
theorem m_I.over {T : x_TT} {N : Nat} {v : x_V} (h : m_I N v) (hB : m_TB T N) {b : Nat} (hb : b < N) : m_I N (m_over T v (nI b)) := by
  obtain ⟨-, h13, ⟨x, x99, ex⟩, h3, h12⟩ := h
  obtain ⟨⟨f, f99, ef⟩, -⟩ := hB
  refine ⟨⟨b, hb, ?_⟩, ?_, ?_, ?_, ?_⟩
  · rw [m_over]; exact (m_give_9 T _ _).1
  · rw [m_over_k T v _ (by decide)]; exact h13
  · have e : m_over T v (nI b) 2 = m_fr T v (nI b) 2 := by
      rw [m_over, m_give_k T _ _ (by decide), m_ov, x_un _ _ (by decide), x_un _ _ (by decide), x_un _ _ (by decide)]
    rw [e, m_fr]
    split
    · exact ⟨x, x99, ex⟩
    · split
      · exact ⟨x, x99, ex⟩
      · rw [x_ub, ex, ef, nI_add, show (99 : Int32) = nI 99 from rfl]
        by_cases q : x + f < 99
        · rw [if_pos (nI_lt q (by decide))]; exact ⟨x + f, by omega, rfl⟩
        · rw [if_neg (nI_nlt (a := x + f) (b := 99) (by omega) (by omega))]; exact ⟨99, by decide, rfl⟩
  · rw [m_over_k T v _ (by decide)]; exact h3
  · rw [m_over_k T v _ (by decide)]; exact h12
section RG
variable {μ : x_Hp} {T : x_TT} {lv N : Nat}
theorem y_G.over (hT : y_Tx μ T lv N) (hB : m_TB T N) (h51 : μ.1 0 51 = -1) {v : x_V} (h : y_G μ T N v) {b : Nat} (hb : b < N) : y_G μ T N (m_over T v (nI b)) := by
  have hN : N ≤ 6 := hT.2.1
  obtain ⟨hI, w, hw, hC⟩ := h
  refine ⟨hI.over hB hb, b, hb, ?_, ?_, ?_, ?_, ?_⟩
  · rw [m_over]; exact (m_give_9 T _ _).1
  · have n51 : ¬ nI b = μ.1 0 51 := by
      rw [h51]
      intro q
      have := nI_pos (n := b) (by omega)
      rw [q] at this
      exact this (by decide)
    rw [if_neg n51, m_over, (m_give_9 T _ _).2.1, m_atT, if_pos (x_inb_nI (by omega) (by decide)), x_ix_nI (by omega)]
  · rw [m_over, (m_give_9 T _ _).2.2.1, m_atT, if_pos (x_inb_nI (by omega) (by decide)), x_ix_nI (by omega)]
  · rw [m_over, (m_give_9 T _ _).2.2.2, m_atT, if_pos (x_inb_nI (by omega) (by decide)), x_ix_nI (by omega)]
  · rw [m_over_k T v _ (by decide)]; exact hC.2.2.2.2
theorem y_had (v : x_V) (c : y_Sc) {a : Nat} (ha : a < 6) : (z_hp μ v c).1 32 (20 + a) = m_tal v (nI a) 0 := by
  have e : m_tal v (nI a) 0 = v (20 + (7 * a + 0)) := m_tal_nI v ha (w := 0) (by decide)
  rw [e, y_rv_at v (by omega), y_rv, if_neg (by omega), if_pos (by omega)]
  congr 1
  rw [y_col, if_neg (by omega)]
  omega
theorem y_few (hT : y_Tx μ T lv N) {v : x_V} {w : Nat} (hw : w < N) (h9 : v 9 = nI w) (c : y_Sc) : F_X9_fewestOther (z_hp μ v c) = some (if m_few v N 0 (v 9) = v 9 then -1 else m_few v N 0 (v 9), z_hp μ v c) := by
  obtain ⟨hlv, hN, h18, -, h10, -⟩ := hT
  have loop : ∀ (d n i : Nat) (f b : Int32), i + d = N → d < n → ((f = v 9 ∧ b = -1) ∨ (f ≠ v 9 ∧ b = f ∧ ∃ j, j < N ∧ f = nI j)) → F_X9_fewestOther_4 n b (nI i) (z_hp μ v c) = some (if m_few v d i f = v 9 then -1 else m_few v d i f, z_hp μ v c) := by
    intro d
    induction d with
    | zero =>
      intro n i f b h1 h2 h3
      obtain ⟨n, rfl⟩ : ∃ m, n = m + 1 := ⟨n - 1, by omega⟩
      rw [F_X9_fewestOther_4, z_0 μ _ c (by decide), h18, x_gd_t (x_inb_nI hlv (by decide)), x_ix_nI (by omega), z_lo μ _ c (a := 10) _ (by decide) (by decide), h10, if_pos (nI_le (by omega) (by omega)), m_few]
      rcases h3 with ⟨q1, q2⟩ | ⟨q1, q2, -⟩
      · rw [if_pos q1, q2]
      · rw [if_neg q1, q2]
    | succ d ih =>
      intro n i f b h1 h2 h3
      obtain ⟨n, rfl⟩ : ∃ m, n = m + 1 := ⟨n - 1, by omega⟩
      rw [F_X9_fewestOther_4, z_0 μ _ c (by decide), h18, x_gd_t (x_inb_nI hlv (by decide)), x_ix_nI (by omega), z_lo μ _ c (a := 10) _ (by decide) (by decide), h10, if_neg (nI_ge (by omega) (by omega)), z_get μ v c 9 (k := 4) rfl (by decide) (by decide), m_few]
      by_cases hi : nI i = v 9
      · rw [if_pos hi, if_pos hi, F_X9_fewestOther_54, nI_1]
        exact ih n (i + 1) f b (by omega) (by omega) h3
      · rw [if_neg hi, if_neg hi]
        rcases h3 with ⟨q1, q2⟩ | ⟨q1, q2, j, hj, q3⟩
        · rw [q2, if_pos (by decide), if_pos q1, F_X9_fewestOther_52, F_X9_fewestOther_54, nI_1]
          exact ih n (i + 1) (nI i) (nI i) (by omega) (by omega) (Or.inr ⟨hi, rfl, i, by omega, rfl⟩)
        · have ix : (20 : Int32) + nI i = nI (20 + i) := nI_add 20 i
          have jx : (20 : Int32) + nI j = nI (20 + j) := nI_add 20 j
          rw [q2, if_neg q1, q3, if_neg (nI_pos (by omega)), ix, x_gd_t (x_inb_nI (by omega) (by decide)), jx, x_gd_t (x_inb_nI (by omega) (by decide)), x_ix_nI (by omega), x_ix_nI (by omega), y_had v c (by omega), y_had v c (by omega)]
          by_cases hm : m_tal v (nI j) 0 ≤ m_tal v (nI i) 0
          · rw [if_pos hm, if_pos hm, F_X9_fewestOther_54, nI_1]
            exact ih n (i + 1) (nI j) (nI j) (by omega) (by omega) (Or.inr ⟨by rw [← q3]; exact q1, rfl, j, hj, rfl⟩)
          · rw [if_neg hm, if_neg hm, F_X9_fewestOther_52, F_X9_fewestOther_54, nI_1]
            exact ih n (i + 1) (nI i) (nI i) (by omega) (by omega) (Or.inr ⟨hi, rfl, i, by omega, rfl⟩)
  rw [F_X9_fewestOther]
  exact loop N x_fuel 0 (v 9) (-1) (by omega) (by rw [x_fuel]; omega) (Or.inl ⟨rfl, rfl⟩)
/-- with two aunts or more there is another one -/
theorem m_few_in (v : x_V) : ∀ (d i : Nat) (f : Int32), (∃ j, j < i + d ∧ f = nI j) ∨ f = v 9 → (∃ j, j < i + d ∧ m_few v d i f = nI j) ∨ m_few v d i f = v 9 := by
  intro d
  induction d with
  | zero => intro i f h; exact h
  | succ d ih =>
    intro i f h
    rw [m_few, show i + (d + 1) = i + 1 + d by omega]
    rw [show i + (d + 1) = i + 1 + d by omega] at h
    refine ih (i + 1) _ ?_
    split
    · exact h
    · split
      · exact Or.inl ⟨i, by omega, rfl⟩
      · split
        · exact h
        · exact Or.inl ⟨i, by omega, rfl⟩
theorem m_few_ne (v : x_V) : ∀ (d i : Nat) (f : Int32), f ≠ v 9 → m_few v d i f ≠ v 9 := by
  intro d
  induction d with
  | zero => intro i f h; exact h
  | succ d ih =>
    intro i f h
    rw [m_few]
    refine ih (i + 1) _ ?_
    by_cases h1 : nI i = v 9
    · rw [if_pos h1]; exact h
    · rw [if_neg h1, if_neg h]
      split
      · exact h
      · exact h1
theorem m_few_other (v : x_V) {w : Nat} (h9 : v 9 = nI w) (hw : w < N) (h2 : 1 < N) (h6 : N ≤ 6) : m_few v N 0 (v 9) ≠ v 9 ∧ ∃ j, j < N ∧ m_few v N 0 (v 9) = nI j := by
  have ne : m_few v N 0 (v 9) ≠ v 9 := by
    obtain ⟨M, rfl⟩ : ∃ M, N = M + 2 := ⟨N - 2, by omega⟩
    rw [m_few]
    by_cases h0 : nI 0 = v 9
    · rw [if_pos h0, m_few]
      have h1 : ¬ nI (0 + 1) = v 9 := by
        rw [← h0]
        intro q
        have := (nI_eq (a := 0 + 1) (b := 0) (by decide) (by decide)).mp q
        omega
      rw [if_neg h1, if_pos rfl]
      exact m_few_ne v M _ _ h1
    · rw [if_neg h0, if_pos rfl]
      exact m_few_ne v (M + 1) _ _ h0
  refine ⟨ne, ?_⟩
  rcases m_few_in v N 0 (v 9) (Or.inr rfl) with ⟨j, hj, e⟩ | e
  · exact ⟨j, by omega, e⟩
  · exact absurd e ne
end RG
