/-! ORDERS WEIGHED, both sides -/
def c_pu (σ : x_Hp) (o : Nat) (w x : Int32) : x_Hp := x_pI (x_pI (x_pI σ o 2 1) o 0 w) o 1 x
theorem c_pu_o (σ : x_Hp) (o : Nat) (w x : Int32) {a b : Nat} (h : a ≠ o) : (c_pu σ o w x).1 a b = σ.1 a b := by
  rw [c_pu, x_pI_1, if_neg (by omega), x_pI_1, if_neg (by omega), x_pI_1, if_neg (by omega)]
theorem c_pu_v (σ : x_Hp) (o : Nat) (w x : Int32) : (c_pu σ o w x).1 o 0 = w ∧ (c_pu σ o w x).1 o 1 = x ∧ (c_pu σ o w x).1 o 2 = 1 := by
  refine ⟨?_, ?_, ?_⟩
  · rw [c_pu, x_pI_1, if_neg (by omega), x_pI_1, if_pos ⟨rfl, rfl⟩]
  · rw [c_pu, x_pI_1, if_pos ⟨rfl, rfl⟩]
  · rw [c_pu, x_pI_1, if_neg (by omega), x_pI_1, if_neg (by omega), x_pI_1, if_pos ⟨rfl, rfl⟩]
theorem c_off (σ : x_Hp) (o : Nat) (w x : Int32) : F_X2_offer o w x σ = some ((), if σ.1 o 2 = 0 ∨ ¬ σ.1 o 1 ≤ x then c_pu σ o w x else σ) := by
  have e : F_X2_offer_15 o w x σ = some ((), c_pu σ o w x) := rfl
  rw [F_X2_offer]
  by_cases h : σ.1 o 2 = 0
  · rw [if_pos h, if_pos (Or.inl h), e]
  · rw [if_neg h]
    by_cases q : σ.1 o 1 ≤ x
    · rw [if_pos q, if_neg (by rintro (z | z); exact h z; exact z q)]
    · rw [if_neg q, if_pos (Or.inr q), e]
theorem x_mnm (z y : Int32) : (if z < y then z else y) = (if y ≤ z then y else z) := by
  by_cases h : z < y
  · rw [if_pos h, if_neg (by rw [Int32.le_iff_toInt_le]; rw [Int32.lt_iff_toInt_lt] at h; omega)]
  · rw [if_neg h, if_pos (by rw [Int32.le_iff_toInt_le]; rw [Int32.lt_iff_toInt_lt] at h; omega)]
section W1
variable {T : x_TT} {lv N t m : Nat} {v : x_V} {l : List Nat}
theorem c_share {τ : x_Hp} (hN6 : N ≤ 6) (h7 : τ.1 1 7 = nI N) (hR : x_RW T m v l τ N) (a q : Int32) : F_X3_share a q τ = some (m_tal (m_pre T m v l N) a q - m_tal v a q, τ) := by
  have e0 : F_X3_row (0 : Int32) τ = some (153 + 2 * 0, τ) := c_row (d := 0) (by decide) τ
  rw [F_X3_share, h7, c_row (by omega), x_b_s, k_tal (ro_St N (by omega)) (hR N (Nat.le_refl _)).1, x_b_s, e0, x_b_s, k_tal (ro_St 0 (by decide)) (hR 0 (Nat.zero_le _)).1, x_b_s]
  rfl
theorem c_weigh_loop {τ : x_Hp} (hN6 : N ≤ 6) (h7 : τ.1 1 7 = nI N) (hR : x_RW T m v l τ N) : ∀ (k f i b : Nat) (s x y : Int32), i + k = N → b < N → k < f → F_X3_weigh_17 f s (nI b) x y (nI i) τ = F_X3_weigh_17 1 (m_sm (m_sh T N m v l 1) k i s) (nI (m_luk (m_sh T N m v l 1) k i b)) (m_tp (m_sh T N m v l 2) k i x) (m_lw (m_sh T N m v l 2) k i y) (nI N) τ := by
  intro k
  induction k with
  | zero =>
    intro f i b s x y h1 hb h2
    obtain ⟨f, rfl⟩ : ∃ m, f = m + 1 := ⟨f - 1, by omega⟩
    have : i = N := by omega
    subst this
    rw [F_X3_weigh_17, F_X3_weigh_17, h7, if_pos (nI_le (Nat.le_refl _) (by omega)), if_pos (nI_le (Nat.le_refl _) (by omega))]
    rfl
  | succ k ih =>
    intro f i b s x y h1 hb h2
    obtain ⟨f, rfl⟩ : ∃ m, f = m + 1 := ⟨f - 1, by omega⟩
    rw [F_X3_weigh_17, h7, if_neg (nI_ge (by omega) (by omega)), c_share hN6 h7 hR, x_b_s, c_share hN6 h7 hR, x_b_s, c_share hN6 h7 hR, x_b_s, m_sm, m_luk, m_tp, m_lw]
    have em : ∀ b', F_X3_weigh_72 (F_X3_weigh_17 f) (s + (m_tal (m_pre T m v l N) (nI i) 1 - m_tal v (nI i) 1)) x y (nI i) (m_tal (m_pre T m v l N) (nI i) 2 - m_tal v (nI i) 2) (nI b') τ = F_X3_weigh_17 f (s + m_sh T N m v l 1 i) (nI b') (if m_sh T N m v l 2 i ≤ x then x else m_sh T N m v l 2 i) (if y ≤ m_sh T N m v l 2 i then y else m_sh T N m v l 2 i) (nI (i + 1)) τ := by
      intro b'
      rw [F_X3_weigh_72, nI_1, x_mxm, x_mnm]
      rfl
    by_cases q : m_sh T N m v l 1 b ≤ m_sh T N m v l 1 i
    · rw [if_pos (show m_tal (m_pre T m v l N) (nI b) 1 - m_tal v (nI b) 1 ≤ m_tal (m_pre T m v l N) (nI i) 1 - m_tal v (nI i) 1 from q), if_pos q, em]
      exact ih f (i + 1) b _ _ _ (by omega) hb (by omega)
    · rw [if_neg (show ¬ m_tal (m_pre T m v l N) (nI b) 1 - m_tal v (nI b) 1 ≤ m_tal (m_pre T m v l N) (nI i) 1 - m_tal v (nI i) 1 from q), if_neg q, em]
      exact ih f (i + 1) i _ _ _ (by omega) (by omega) (by omega)
/-- does she who has it as it falls asleep first sit -/
def m_sit (T : x_TT) (s : Int32) : Int32 := m_atT T 7 6 s
theorem c_weigh {τ : x_Hp} (hN0 : 0 < N) (hN6 : N ≤ 6) (hT : x_Tx τ T) (h7 : τ.1 1 7 = nI N) (hl : ∀ k, k < 6 → τ.1 148 k = nI (n_at l k)) (hR : x_RW T m v l τ N) : ∃ τ', F_X3_weigh τ = some ((), τ') ∧ (∀ a b, ¬ ((a = 143 ∧ b = 9) ∨ (149 ≤ a ∧ a ≤ 152)) → τ'.1 a b = τ.1 a b) ∧ τ'.1 143 9 = τ.1 143 9 + m_sit T (m_slp T m v l N) ∧ (∀ k, τ'.1 150 k = if k = m_luk (m_sh T N m v l 1) N 0 0 then τ.1 150 k + 1 else τ.1 150 k) ∧
    (if τ.1 152 2 = 0 ∨ ¬ τ.1 152 1 ≤ m_tp (m_sh T N m v l 2) N 0 (m_sh T N m v l 2 0) - m_lw (m_sh T N m v l 2) N 0 (m_sh T N m v l 2 0) then τ'.1 152 0 = nI (n_at l 0) ∧ τ'.1 152 1 = m_tp (m_sh T N m v l 2) N 0 (m_sh T N m v l 2 0) - m_lw (m_sh T N m v l 2) N 0 (m_sh T N m v l 2 0) ∧ τ'.1 152 2 = 1 else ∀ b, τ'.1 152 b = τ.1 152 b) ∧
    (if τ.1 151 2 = 0 ∨ ¬ τ.1 151 1 ≤ m_sm (m_sh T N m v l 1) N 0 0 then τ'.1 151 1 = m_sm (m_sh T N m v l 1) N 0 0 ∧ τ'.1 151 2 = 1 ∧ (∀ k, k < 6 → τ'.1 149 k = τ.1 148 k) else (∀ b, τ'.1 151 b = τ.1 151 b) ∧ ∀ b, τ'.1 149 b = τ.1 149 b) := by
  have e0 : F_X3_share 0 2 τ = some (m_sh T N m v l 2 0, τ) := c_share hN6 h7 hR 0 2
  have hlk := m_luk_in (m_sh T N m v l 1) N 0 0 (by omega) hN0
  rw [F_X3_weigh, e0, x_b_s, show (0 : Int32) = nI 0 from rfl, c_weigh_loop hN6 h7 hR N x_fuel 0 0 (nI 0) _ _ (by omega) hN0 (by rw [x_fuel]; omega), F_X3_weigh_17, h7, if_pos (nI_le (Nat.le_refl _) (by omega)), e_at, x_b_s, x_aT_nI _ _ (by rw [lnX_150]; omega)]
  rw [show nI 0 = (0 : Int32) from rfl]
  generalize m_luk (m_sh T N m v l 1) N 0 0 = b at hlk ⊢
  generalize m_sm (m_sh T N m v l 1) N 0 0 = s
  generalize m_tp (m_sh T N m v l 2) N 0 (m_sh T N m v l 2 0) - m_lw (m_sh T N m v l 2) N 0 (m_sh T N m v l 2 0) = ap
  rw [e_put, x_b_s, x_pT_nI _ _ (by rw [lnX_150]; omega)]
  have o1 : ∀ i j, i ≠ 150 → (x_pI τ 150 b (τ.1 150 b + 1)).1 i j = τ.1 i j := fun i j h => by rw [x_pI_1, if_neg (by omega)]
  rw [o1 1 7 (by decide), h7, o1 143 9 (by decide), e_at, x_b_s, x_aT_nI _ _ (by rw [lnX_145]; omega), o1 145 N (by decide), (hR N (Nat.le_refl _)).2, e_at, x_b_s]
  have es : x_aT (x_pI τ 150 b (τ.1 150 b + 1)) 7 (m_slp T m v l N) = m_sit T (m_slp T m v l N) := by
    rw [x_aT, lnX_7, m_sit, m_atT]
    split
    · rw [o1 7 _ (by decide)]; exact hT.2.1 7 _ (by decide) (by decide)
    · rfl
  rw [es, x_pt_s]
  generalize m_sit T (m_slp T m v l N) = sit
  have o2 : ∀ i j, i ≠ 150 → ¬ (i = 143 ∧ j = 9) → (x_pI (x_pI τ 150 b (τ.1 150 b + 1)) 143 9 (τ.1 143 9 + sit)).1 i j = τ.1 i j := fun i j h1 h2 => by rw [x_pI_1, if_neg h2, o1 i j h1]
  have r9 : (x_pI (x_pI τ 150 b (τ.1 150 b + 1)) 143 9 (τ.1 143 9 + sit)).1 143 9 = τ.1 143 9 + sit := by rw [x_pI_1, if_pos ⟨rfl, rfl⟩]
  have r150 : ∀ k, (x_pI (x_pI τ 150 b (τ.1 150 b + 1)) 143 9 (τ.1 143 9 + sit)).1 150 k = if k = b then τ.1 150 k + 1 else τ.1 150 k := by
    intro k
    rw [x_pI_1, if_neg (by omega), x_pI_1]
    by_cases q : k = b
    · subst q; rw [if_pos ⟨rfl, rfl⟩, if_pos rfl]
    · rw [if_neg (by omega), if_neg q]
  generalize x_pI (x_pI τ 150 b (τ.1 150 b + 1)) 143 9 (τ.1 143 9 + sit) = τ2 at o2 r9 r150 ⊢
  have f0 : x_aT τ2 148 0 = nI (n_at l 0) := by
    rw [show (0 : Int32) = nI 0 from rfl, x_aT_nI _ _ (by rw [lnX_148]; decide), o2 148 0 (by decide) (by omega), hl 0 (by decide)]
  rw [e_at, x_b_s, f0, c_off, x_b_s, o2 152 2 (by decide) (by omega), o2 152 1 (by decide) (by omega)]
  have o3 : ∀ i j, i ≠ 152 → (if τ.1 152 2 = 0 ∨ ¬ τ.1 152 1 ≤ ap then c_pu τ2 152 (nI (n_at l 0)) ap else τ2).1 i j = τ2.1 i j := by
    intro i j h
    split
    · exact c_pu_o _ _ _ _ h
    · rfl
  have v3 : if τ.1 152 2 = 0 ∨ ¬ τ.1 152 1 ≤ ap then (if τ.1 152 2 = 0 ∨ ¬ τ.1 152 1 ≤ ap then c_pu τ2 152 (nI (n_at l 0)) ap else τ2).1 152 0 = nI (n_at l 0) ∧ (if τ.1 152 2 = 0 ∨ ¬ τ.1 152 1 ≤ ap then c_pu τ2 152 (nI (n_at l 0)) ap else τ2).1 152 1 = ap ∧ (if τ.1 152 2 = 0 ∨ ¬ τ.1 152 1 ≤ ap then c_pu τ2 152 (nI (n_at l 0)) ap else τ2).1 152 2 = 1 else ∀ b, (if τ.1 152 2 = 0 ∨ ¬ τ.1 152 1 ≤ ap then c_pu τ2 152 (nI (n_at l 0)) ap else τ2).1 152 b = τ.1 152 b := by
    by_cases q : τ.1 152 2 = 0 ∨ ¬ τ.1 152 1 ≤ ap
    · simp only [if_pos q]; exact c_pu_v _ _ _ _
    · simp only [if_neg q]; exact fun b => o2 152 b (by decide) (by omega)
  generalize (if τ.1 152 2 = 0 ∨ ¬ τ.1 152 1 ≤ ap then c_pu τ2 152 (nI (n_at l 0)) ap else τ2) = τ3 at o3 v3 ⊢
  have p3 : ∀ i j, i ≠ 150 → i ≠ 152 → ¬ (i = 143 ∧ j = 9) → τ3.1 i j = τ.1 i j := fun i j h1 h2 h3 => by rw [o3 i j h2, o2 i j h1 h3]
  rw [p3 151 2 (by decide) (by decide) (by omega), p3 151 1 (by decide) (by decide) (by omega)]
  -- the least CRY, with its order
  have cp : F_X8_copy 148 149 τ3 = some ((), (x_u τ3.1 149 (fun j => if j < 6 then τ3.1 148 j else τ3.1 149 j), τ3.2)) := e_copy 148 149 (by decide) lnX_148 lnX_149 (by decide) τ3
  have yes : F_X3_weigh_192 s τ3 = some ((), if (τ.1 151 2 = 0 ∨ ¬ τ.1 151 1 ≤ s) then c_pu (x_u τ3.1 149 (fun j => if j < 6 then τ3.1 148 j else τ3.1 149 j), τ3.2) 151 0 s else (x_u τ3.1 149 (fun j => if j < 6 then τ3.1 148 j else τ3.1 149 j), τ3.2)) := by
    rw [F_X3_weigh_192, cp, x_b_s, F_X3_weigh_203, c_off, x_b_s]
    have : ∀ b, (x_u τ3.1 149 (fun j => if j < 6 then τ3.1 148 j else τ3.1 149 j)) 151 b = τ.1 151 b := fun b => by rw [x_un _ _ (by decide), p3 151 b (by decide) (by decide) (by omega)]
    simp only [this]
  have fin : ∀ (q : τ.1 151 2 = 0 ∨ ¬ τ.1 151 1 ≤ s), ∃ τ', F_X3_weigh_192 s τ3 = some ((), τ') ∧ (∀ a b, ¬ ((a = 143 ∧ b = 9) ∨ (149 ≤ a ∧ a ≤ 152)) → τ'.1 a b = τ.1 a b) ∧ τ'.1 143 9 = τ.1 143 9 + sit ∧ (∀ k, τ'.1 150 k = if k = b then τ.1 150 k + 1 else τ.1 150 k) ∧ (∀ b, τ'.1 152 b = τ3.1 152 b) ∧ τ'.1 151 1 = s ∧ τ'.1 151 2 = 1 ∧ (∀ k, k < 6 → τ'.1 149 k = τ.1 148 k) := by
    intro q
    rw [yes, if_pos q]
    have oo : ∀ i j, i ≠ 151 → i ≠ 149 → (c_pu (x_u τ3.1 149 (fun j => if j < 6 then τ3.1 148 j else τ3.1 149 j), τ3.2) 151 0 s).1 i j = τ3.1 i j := fun i j h1 h2 => by
      rw [c_pu_o _ _ _ _ h1]; exact congrFun (x_un τ3.1 _ h2) j
    refine ⟨_, rfl, fun i j h => ?_, ?_, fun k => ?_, fun b => oo 152 b (by decide) (by decide), (c_pu_v _ _ _ _).2.1, (c_pu_v _ _ _ _).2.2, fun k hk => ?_⟩
    · rw [oo i j (by omega) (by omega), p3 i j (by omega) (by omega) (by omega)]
    · rw [oo _ _ (by decide) (by decide), o3 _ _ (by decide), r9]
    · rw [oo _ _ (by decide) (by decide), o3 _ _ (by decide), r150]
    · rw [c_pu_o _ _ _ _ (by decide)]
      have e149 : (x_u τ3.1 149 (fun j => if j < 6 then τ3.1 148 j else τ3.1 149 j)) 149 k = τ.1 148 k := by
        simp only [x_u, if_true]
        rw [if_pos hk]; exact p3 148 k (by decide) (by decide) (by omega)
      exact e149
  by_cases h2 : τ.1 151 2 = 0
  · obtain ⟨τ', a1, a2, a3, a4, a5, a6, a7, a8⟩ := fin (Or.inl h2)
    rw [if_pos h2, a1]
    refine ⟨τ', rfl, a2, a3, a4, ?_, ?_⟩
    · split
      · rename_i hq; rw [if_pos hq] at v3; rw [a5, a5, a5]; exact v3
      · rename_i hq; rw [if_neg hq] at v3; exact fun b => by rw [a5, v3 b]
    · rw [if_pos (Or.inl h2)]; exact ⟨a6, a7, a8⟩
  · rw [if_neg h2]
    by_cases h3 : τ.1 151 1 ≤ s
    · rw [if_pos h3, F_X3_weigh_203, c_off, x_b_s, p3 151 2 (by decide) (by decide) (by omega), p3 151 1 (by decide) (by decide) (by omega), if_neg (by rintro (z | z); exact h2 z; exact z h3)]
      refine ⟨τ3, rfl, fun i j h => p3 i j (by omega) (by omega) (by omega), ?_, fun k => ?_, ?_, ?_⟩
      · rw [o3 _ _ (by decide), r9]
      · rw [o3 _ _ (by decide), r150]
      · exact v3
      · rw [if_neg (by rintro (z | z); exact h2 z; exact z h3)]
        exact ⟨fun b => p3 151 b (by decide) (by decide) (by omega), fun b => p3 149 b (by decide) (by decide) (by omega)⟩
    · obtain ⟨τ', a1, a2, a3, a4, a5, a6, a7, a8⟩ := fin (Or.inr h3)
      rw [if_neg h3, a1]
      refine ⟨τ', rfl, a2, a3, a4, ?_, ?_⟩
      · split
        · rename_i hq; rw [if_pos hq] at v3; rw [a5, a5, a5]; exact v3
        · rename_i hq; rw [if_neg hq] at v3; exact fun b => by rw [a5, v3 b]
      · rw [if_pos (Or.inr h3)]; exact ⟨a6, a7, a8⟩
end W1
