/-! WHAT A MINUTE KEEPS -/
theorem x_wi_in (x : Int32) {a b : Nat} (hab : a ≤ b) (hb : b < 2 ^ 31) : ∃ j, a ≤ j ∧ j ≤ b ∧ x_wi x (nI a) (nI b) = nI j := by
  rw [x_wi]
  have ta := nI_toInt (n := a) (by omega)
  have tb := nI_toInt hb
  by_cases h1 : x < nI b
  · rw [if_pos h1]
    by_cases h2 : nI a < x
    · rw [if_pos h2]
      rw [Int32.lt_iff_toInt_lt] at h1 h2
      obtain ⟨j, hj, e⟩ := nI_of (x := x) (by rw [Int32.lt_iff_toInt_lt, Int32.toInt_zero]; omega)
      have tj := nI_toInt hj
      subst e
      exact ⟨j, by omega, by omega, rfl⟩
    · rw [if_neg h2]; exact ⟨a, by omega, hab, rfl⟩
  · rw [if_neg h1]
    by_cases h2 : nI a < nI b
    · rw [if_pos h2]; exact ⟨b, hab, by omega, rfl⟩
    · rw [if_neg h2]; exact ⟨a, by omega, hab, rfl⟩
theorem m_tells_in (T : x_TT) (v : x_V) {k : Nat} (hk : 4 ≤ k ∧ k < 7) : ∃ j, j ≤ 100 ∧ (k = 4 → j ≤ 99) ∧ m_tells T k v = nI j := by
  have hc : k = 4 ∨ k = 5 ∨ k = 6 := by omega
  rcases hc with rfl | rfl | rfl
  · obtain ⟨j, h1, h2, h3⟩ := x_wi_in (if (m_br v (T.2 4).1 (T.2 4).2).2 = true then 0 else (m_br v (T.2 4).1 (T.2 4).2).1) (a := 0) (b := 99) (by decide) (by decide)
    exact ⟨j, by omega, fun _ => h2, h3⟩
  · obtain ⟨j, h1, h2, h3⟩ := x_wi_in (if (m_br v (T.2 5).1 (T.2 5).2).2 = true then 0 else (m_br v (T.2 5).1 (T.2 5).2).1) (a := 0) (b := 1) (by decide) (by decide)
    exact ⟨j, by omega, fun h => absurd h (by decide), h3⟩
  · obtain ⟨j, h1, h2, h3⟩ := x_wi_in (if (m_br v (T.2 6).1 (T.2 6).2).2 = true then 0 else (m_br v (T.2 6).1 (T.2 6).2).1) (a := 0) (b := 100) (by decide) (by decide)
    exact ⟨j, by omega, fun h => absurd h (by decide), h3⟩
/-- what no minute changes -/
def m_fix (k : Nat) : Prop := k = 5 ∨ k = 6 ∨ k = 7 ∨ k = 8 ∨ k = 9 ∨ k = 10 ∨ k = 11 ∨ k = 14 ∨ k = 16 ∨ k = 18 ∨ k = 19
theorem m_fall_k (v : x_V) {k : Nat} (h : k ≠ 13 ∧ k ≠ 17) : m_fall v k = v k := by
  rw [m_fall, x_un _ _ (by omega), x_un _ _ (by omega)]
theorem m_sp1_k (v : x_V) {k : Nat} (hk : k < 20) (h : k ≠ 3) : m_sp1 v k = v k := by
  rw [m_sp1, m_tm_lt _ _ _ hk, x_un _ _ h]
theorem m_spit_k (T : x_TT) (v : x_V) {k : Nat} (hk : k < 20) (h : k ≠ 3) : m_spit T v k = v k := by
  rw [m_spit]
  split
  · rw [m_tm_lt _ _ _ hk, m_sp1_k v hk h]
  · exact m_sp1_k v hk h
theorem m_w1_k (T : x_TT) (v : x_V) {k : Nat} (h : k ≠ 0 ∧ k ≠ 1 ∧ k ≠ 2 ∧ k ≠ 3) : m_w1 T v k = v k := by
  rw [m_w1, x_un _ _ (by omega), x_un _ _ (by omega), x_un _ _ (by omega), x_un _ _ (by omega)]
theorem m_w2_k (T : x_TT) (v : x_V) {k : Nat} (h : k ≠ 4 ∧ k ≠ 12) : m_w2 T v k = v k := by
  rw [m_w2, x_un _ _ (by omega), x_un _ _ (by omega)]
theorem m_w3_k (v : x_V) {k : Nat} (hk : k < 20) : m_w3 v k = v k := by
  rw [m_w3, m_tm_lt _ _ _ hk, m_tm_lt _ _ _ hk]
theorem m_w4_k (v : x_V) {k : Nat} (hk : k < 20) : m_w4 v k = v k := by
  rw [m_w4]
  split
  · split
    · rfl
    · exact m_tm_lt _ _ _ hk
  · rfl
theorem m_w5_k (T : x_TT) (v : x_V) {k : Nat} (hk : k < 20) (h : k ≠ 3) : m_w5 T v k = v k := by
  rw [m_w5]
  split
  · rfl
  · exact m_spit_k T v hk h
theorem m_w6_k (T : x_TT) (v : x_V) {k : Nat} (h : k ≠ 13 ∧ k ≠ 17) : m_w6 T v k = v k := by
  rw [m_w6]
  split
  · rfl
  · exact m_fall_k v h
theorem m_awake_k (T : x_TT) (v : x_V) {k : Nat} (hk : k < 20) (h : k ≠ 0 ∧ k ≠ 1 ∧ k ≠ 2 ∧ k ≠ 3 ∧ k ≠ 4 ∧ k ≠ 12 ∧ k ≠ 13 ∧ k ≠ 17) : m_awake T v k = v k := by
  rw [m_awake, m_w6_k T _ (by omega), m_w5_k T _ hk (by omega), m_w4_k _ hk, m_w3_k _ hk, m_w2_k T _ (by omega), m_w1_k T _ (by omega)]
theorem m_sl_k (T : x_TT) (v : x_V) {k : Nat} (hk : k < 20) (h : k ≠ 0 ∧ k ≠ 12 ∧ k ≠ 13) : m_sl2 (m_sl1 T v) k = v k := by
  rw [m_sl2, x_un _ _ (by omega), m_sl1, x_un _ _ (by omega), m_tm_lt _ _ _ hk, x_un _ _ (by omega)]
theorem m_asleep_k (T : x_TT) (v : x_V) {k : Nat} (hk : k < 20) (h : k ≠ 0 ∧ k ≠ 1 ∧ k ≠ 4 ∧ k ≠ 12 ∧ k ≠ 13) : m_asleep T v k = v k := by
  rw [m_asleep]
  split
  · rw [x_un _ _ (by omega), x_un _ _ (by omega), m_sl_k T v hk (by omega)]
  · exact m_sl_k T v hk (by omega)
theorem m_step_k (T : x_TT) (v : x_V) {k : Nat} (hk : m_fix k) : m_step T v k = v k := by
  unfold m_fix at hk
  rw [m_step, x_un _ _ (by omega), m_mn]
  split
  · rfl
  · split
    · exact m_awake_k T v (by omega) (by omega)
    · exact m_asleep_k T v (by omega) (by omega)
/-- how the state is, with N aunts -/
def m_I (N : Nat) (v : x_V) : Prop := (∃ w, w < N ∧ v 9 = nI w) ∧ (∃ a, a ≤ 60 ∧ v 13 = nI a) ∧ (∃ x, x ≤ 99 ∧ v 2 = nI x) ∧ (∃ x, x ≤ 99 ∧ v 3 = nI x) ∧ ∃ x, x ≤ 99 ∧ v 12 = nI x
theorem x_wi99 (x : Int32) : ∃ j, j ≤ 99 ∧ x_wi x 0 99 = nI j := by
  obtain ⟨j, -, h2, h3⟩ := x_wi_in x (a := 0) (b := 99) (by decide) (by decide)
  exact ⟨j, h2, h3⟩
theorem m_awake_13 (T : x_TT) (v : x_V) (h : v 13 ≤ 0) {a : Nat} (ha : a ≤ 60) (hv : v 13 = nI a) : m_awake T v 13 = 0 ∨ m_awake T v 13 = 60 := by
  have h13 : ∀ u : x_V, u 13 = 0 → m_w6 T u 13 = 0 ∨ m_w6 T u 13 = 60 := by
    intro u hu
    rw [m_w6]
    split
    · exact Or.inl hu
    · right; rw [m_fall, x_un _ _ (by decide), x_ub]
  rw [m_awake]
  refine h13 _ ?_
  rw [m_w5_k T _ (by decide) (by decide), m_w4_k _ (by decide), m_w3_k _ (by decide), m_w2_k T _ (by decide), m_w1_k T _ (by decide)]
  rcases Nat.eq_zero_or_pos a with q | q
  · rw [hv, q]; rfl
  · exact absurd h (by rw [hv]; exact nI_nle q (by omega))
theorem m_awake_12 (T : x_TT) (v : x_V) : ∃ j, j ≤ 99 ∧ m_awake T v 12 = nI j := by
  obtain ⟨j, -, h2, h3⟩ := m_tells_in T (x_u (m_w1 T v) 4 (m_w1 T v 4 + 1)) (k := 4) (by decide)
  refine ⟨j, h2 rfl, ?_⟩
  rw [m_awake, m_w6_k T _ (by decide), m_w5_k T _ (by decide) (by decide), m_w4_k _ (by decide), m_w3_k _ (by decide), m_w2, x_ub, h3]
theorem m_awake_2 (T : x_TT) (v : x_V) : ∃ j, j ≤ 99 ∧ m_awake T v 2 = nI j := by
  obtain ⟨j, h2, h3⟩ := x_wi99 (v 2 + m_tells T 2 v)
  refine ⟨j, h2, ?_⟩
  rw [m_awake, m_w6_k T _ (by decide), m_w5_k T _ (by decide) (by decide), m_w4_k _ (by decide), m_w3_k _ (by decide), m_w2_k T _ (by decide), m_w1, x_un _ _ (by decide), x_ub, h3]
theorem m_awake_3 (T : x_TT) (v : x_V) : ∃ j, j ≤ 99 ∧ m_awake T v 3 = nI j := by
  obtain ⟨j, h2, h3⟩ := x_wi99 (v 3 + m_tells T 3 v)
  have e1 : m_w4 (m_w3 (m_w2 T (m_w1 T v))) 3 = nI j := by
    rw [m_w4_k _ (by decide), m_w3_k _ (by decide), m_w2_k T _ (by decide), m_w1, x_ub, h3]
  rw [m_awake]
  generalize m_w4 (m_w3 (m_w2 T (m_w1 T v))) = u at e1
  rw [m_w6_k T _ (by decide), m_w5]
  split
  · exact ⟨j, h2, e1⟩
  · refine ⟨0, by decide, ?_⟩
    have : m_sp1 u 3 = 0 := by rw [m_sp1, m_tm_lt _ _ _ (by decide), x_ub]
    rw [m_spit]
    split
    · rw [m_tm_lt _ _ _ (by decide), this]; rfl
    · rw [this]; rfl
theorem m_I.step {T : x_TT} {N : Nat} {v : x_V} (h : m_I N v) (hN : T.1 1 7 = nI N) (hN6 : N ≤ 6) : m_I N (m_step T v) := by
  obtain ⟨⟨w, hw, e9⟩, ⟨a, ha, e13⟩, ⟨x2, h2, e2⟩, ⟨x3, h3, e3⟩, ⟨x12, h12, e12⟩⟩ := h
  have hn : ¬ T.1 1 7 ≤ 0 := by rw [hN]; exact nI_nle (by omega) (by omega)
  refine ⟨⟨w, hw, by rw [m_step_k T v (by unfold m_fix; omega)]; exact e9⟩, ?_⟩
  have e : ∀ k, k ≠ 15 → m_step T v k = if v 13 ≤ 0 then m_awake T v k else m_asleep T v k := by
    intro k hk
    rw [m_step, x_un _ _ hk, m_mn, if_neg hn]
    split <;> rfl
  rw [e 13 (by decide), e 2 (by decide), e 3 (by decide), e 12 (by decide)]
  by_cases h0 : v 13 ≤ 0
  · simp only [if_pos h0]
    refine ⟨?_, m_awake_2 T v, m_awake_3 T v, m_awake_12 T v⟩
    rcases m_awake_13 T v h0 ha e13 with q | q
    · exact ⟨0, by decide, q⟩
    · exact ⟨60, by decide, q⟩
  · simp only [if_neg h0]
    have a0 : 0 < a := by
      rcases Nat.eq_zero_or_pos a with q | q
      · subst q; exact absurd (by rw [e13]; decide) h0
      · exact q
    have v13 : m_sl2 (m_sl1 T v) 13 = nI (a - 1) := by
      rw [m_sl2, x_ub, m_sl1, x_un _ _ (by decide), m_tm_lt _ _ _ (by decide), x_un _ _ (by decide), e13, show (1 : Int32) = nI 1 from rfl, pk_sub a0]
    have v12 : m_sl2 (m_sl1 T v) 12 = 0 := by
      rw [m_sl2, x_un _ _ (by decide), m_sl1, x_ub]
    refine ⟨?_, ?_, ?_, ?_⟩
    · rw [m_asleep]
      split
      · rw [x_un _ _ (by decide), x_un _ _ (by decide), v13]; exact ⟨a - 1, by omega, rfl⟩
      · rw [v13]; exact ⟨a - 1, by omega, rfl⟩
    · rw [m_asleep_k T v (by decide) (by decide)]; exact ⟨x2, h2, e2⟩
    · rw [m_asleep_k T v (by decide) (by decide)]; exact ⟨x3, h3, e3⟩
    · rw [m_asleep]
      split
      · rw [x_un _ _ (by decide), x_un _ _ (by decide), v12]; exact ⟨0, by decide, rfl⟩
      · rw [v12]; exact ⟨0, by decide, rfl⟩
theorem m_step_13 {T : x_TT} {N : Nat} {v : x_V} (hN : T.1 1 7 = nI N) (h0 : 0 < N) (hN6 : N ≤ 6) {s : Nat} (hs : 0 < s) (h60 : s ≤ 60) (e13 : v 13 = nI s) : m_step T v 13 = nI (s - 1) := by
  have hn : ¬ T.1 1 7 ≤ 0 := by rw [hN]; exact nI_nle h0 (by omega)
  have h13 : ¬ v 13 ≤ 0 := by rw [e13]; exact nI_nle hs (by omega)
  have v13 : m_sl2 (m_sl1 T v) 13 = nI (s - 1) := by
    rw [m_sl2, x_ub, m_sl1, x_un _ _ (by decide), m_tm_lt _ _ _ (by decide), x_un _ _ (by decide), e13, show (1 : Int32) = nI 1 from rfl, pk_sub hs]
  rw [m_step, x_un _ _ (by decide), m_mn, if_neg hn, if_neg h13, m_asleep]
  split
  · rw [x_un _ _ (by decide), x_un _ _ (by decide), v13]
  · exact v13
