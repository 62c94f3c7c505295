/-! WHAT IS TOLD OF NOW; likes -/
section Q6
variable {T : x_TT} {lv N t : Nat} {v : x_V}
theorem q_now {σ μ : x_Hp} (h : r_V σ μ T lv N t v) (x : Int32) : q_S σ μ (F_X8_now x σ) (F_X9_now x μ) := by
  have key : ∀ k j : Nat, k < 12 → y_pos j = k → j < 20 → F_X9_now (nI k) μ = some (v j, μ) := by
    intro k j hk hj h20
    rw [F_X9_now, F_X9_in, if_neg (nI_pos (by omega)), if_neg (show ¬ (11 : Int32) < nI k from nI_nlt (a := 11) (by omega) (by decide)), x_b_s, if_neg (by decide), x_gd_t (x_inb_nI (by omega) (by decide)), x_ix_nI (by omega), h.m j hj h20 (by omega)]
  rw [F_X8_now]
  by_cases h0 : x = 0
  · rw [if_pos h0, h0, h.g (by decide), show (0 : Int32) = nI 0 from rfl, key 0 0 (by decide) rfl (by decide)]; exact q_S.c _ _ _
  rw [if_neg h0]
  by_cases h1 : x = 1
  · rw [if_pos h1, h1, h.g (by decide), show (1 : Int32) = nI 1 from rfl, key 1 1 (by decide) rfl (by decide)]; exact q_S.c _ _ _
  rw [if_neg h1]
  by_cases h2 : x = 2
  · rw [if_pos h2, h2, h.g (by decide), show (2 : Int32) = nI 2 from rfl, key 2 2 (by decide) rfl (by decide)]; exact q_S.c _ _ _
  rw [if_neg h2]
  by_cases h3 : x = 3
  · rw [if_pos h3, h3, h.g (by decide), show (3 : Int32) = nI 3 from rfl, key 3 3 (by decide) rfl (by decide)]; exact q_S.c _ _ _
  rw [if_neg h3]
  by_cases h4 : x = 4
  · rw [if_pos h4, h4, h.g (by decide), show (4 : Int32) = nI 4 from rfl, key 4 9 (by decide) rfl (by decide)]; exact q_S.c _ _ _
  rw [if_neg h4]
  by_cases h5 : x = 5
  · rw [if_pos h5, h5, h.g (by decide), show (5 : Int32) = nI 5 from rfl, key 5 4 (by decide) rfl (by decide)]; exact q_S.c _ _ _
  rw [if_neg h5]
  by_cases h6 : x = 6
  · rw [if_pos h6, h6, h.g (by decide), show (6 : Int32) = nI 6 from rfl, key 6 12 (by decide) rfl (by decide)]; exact q_S.c _ _ _
  rw [if_neg h6]
  by_cases h7 : x = 7
  · rw [if_pos h7, h7, h.g (by decide), show (7 : Int32) = nI 7 from rfl, key 7 13 (by decide) rfl (by decide)]; exact q_S.c _ _ _
  rw [if_neg h7]
  by_cases h8 : x = 8
  · rw [if_pos h8, h8, h.g (by decide), show (8 : Int32) = nI 8 from rfl, key 8 14 (by decide) rfl (by decide)]; exact q_S.c _ _ _
  rw [if_neg h8]
  by_cases h9 : x = 9
  · rw [if_pos h9, h9, h.g (by decide), show (9 : Int32) = nI 9 from rfl, key 9 8 (by decide) rfl (by decide)]; exact q_S.c _ _ _
  rw [if_neg h9]
  by_cases h10 : x = 10
  · rw [if_pos h10, h10, h.g (by decide), show (10 : Int32) = nI 10 from rfl, key 10 10 (by decide) rfl (by decide)]; exact q_S.c _ _ _
  rw [if_neg h10]
  by_cases h11 : x = 11
  · rw [if_pos h11, h11, h.g (by decide), show (11 : Int32) = nI 11 from rfl, key 11 11 (by decide) rfl (by decide)]; exact q_S.c _ _ _
  rw [if_neg h11, F_X9_now]
  rcases q_btw (a' := 0) (b' := 11) x 0 11 rfl rfl (by decide) (by decide) with ⟨j, -, hj, rfl, -⟩ | ⟨-, hi, -⟩
  · exfalso
    have hc : j = 0 ∨ j = 1 ∨ j = 2 ∨ j = 3 ∨ j = 4 ∨ j = 5 ∨ j = 6 ∨ j = 7 ∨ j = 8 ∨ j = 9 ∨ j = 10 ∨ j = 11 := by omega
    rcases hc with rfl | rfl | rfl | rfl | rfl | rfl | rfl | rfl | rfl | rfl | rfl | rfl
    · exact h0 rfl
    · exact h1 rfl
    · exact h2 rfl
    · exact h3 rfl
    · exact h4 rfl
    · exact h5 rfl
    · exact h6 rfl
    · exact h7 rfl
    · exact h8 rfl
    · exact h9 rfl
    · exact h10 rfl
    · exact h11 rfl
  · rw [hi, x_b_s, if_pos rfl]; exact q_S.c _ _ _
theorem r_V.col {σ μ : x_Hp} (h : r_V σ μ T lv N t v) {a q p : Nat} (ha : a < 6) (hq : (q < 5 ∧ p = 20 + 6 * q + a) ∨ (q = 6 ∧ p = 50 + a)) : μ.1 31 p = m_tal v (nI a) (nI q) := by
  rw [m_tal_nI v ha (by omega), h.2.2.2.2.2 p (by omega), y_rv, if_neg (by omega), if_pos (by omega)]
  congr 1
  rw [y_col]
  rcases hq with ⟨h1, h2⟩ | ⟨h1, h2⟩
  · rw [if_neg (by omega)]; omega
  · rw [if_pos (by omega)]; omega
theorem q_auntQ {σ μ : x_Hp} (h : r_V σ μ T lv N t v) (x1 x2 : Int32) : q_S σ μ (F_X8_aunt x1 x2 σ) (F_X9_aunt x1 x2 μ) := by
  obtain ⟨n1, n6, n7⟩ := h.n
  obtain ⟨hlv, y18, y10⟩ := h.y18
  have e35 := h.2.2.2.1
  rw [F_X8_aunt, F_X9_aunt]
  refine q_ga h x1 ?_
  rintro a ha rfl
  have col : ∀ q : Nat, q < 5 → F_X9_aunt_52 (nI a) (nI q) μ = some (m_tal v (nI a) (nI q), μ) := by
    intro q hq
    have ix : ((20 : Int32) + ((6 : Int32) * nI q)) + nI a = nI (20 + 6 * q + a) := by
      rw [show (6 : Int32) * nI q = nI (6 * q) from pk_mul 6 q, show (20 : Int32) + nI (6 * q) = nI (20 + 6 * q) from nI_add 20 _, nI_add]
    rw [F_X9_aunt_52, ix, x_gd_t (x_inb_nI (by omega) (by decide)), x_ix_nI (by omega), h.col (by omega) (Or.inl ⟨hq, rfl⟩)]
  rcases q_btw (a' := 0) (b' := 6) x2 0 6 rfl rfl (by decide) (by decide) with ⟨j, -, hj, rfl, hb, -⟩ | ⟨hb, -, hn⟩
  · rw [hb, x_b_s, if_neg (by decide)]
    have hc : j = 0 ∨ j = 1 ∨ j = 2 ∨ j = 3 ∨ j = 4 ∨ j = 5 ∨ j = 6 := by omega
    rcases hc with rfl | rfl | rfl | rfl | rfl | rfl | rfl
    · rw [if_neg (by decide), k_tal35 e35, x_b_s, if_pos (show nI 0 = 0 from rfl), col 0 (by decide)]; exact q_S.c _ _ _
    · rw [if_neg (by decide), k_tal35 e35, x_b_s, if_neg (by decide), if_pos (show nI 1 = 1 from rfl), col 1 (by decide)]; exact q_S.c _ _ _
    · rw [if_neg (by decide), k_tal35 e35, x_b_s, if_neg (by decide), if_neg (by decide), if_pos (show nI 2 = 2 from rfl), col 2 (by decide)]; exact q_S.c _ _ _
    · rw [if_neg (by decide), k_tal35 e35, x_b_s, if_neg (by decide), if_neg (by decide), if_neg (by decide), if_pos (show nI 3 = 3 from rfl), col 3 (by decide)]; exact q_S.c _ _ _
    · rw [if_neg (by decide), k_tal35 e35, x_b_s, if_neg (by decide), if_neg (by decide), if_neg (by decide), if_neg (by decide), if_pos (show nI 4 = 4 from rfl), col 4 (by decide)]; exact q_S.c _ _ _
    · have ix : (6 : Int32) * nI lv + nI a = nI (6 * lv + a) := by rw [show (6 : Int32) * nI lv = nI (6 * lv) from pk_mul 6 lv, nI_add]
      rw [if_pos (show nI 5 = 5 from rfl), e_at, x_b_s, x_aT_nI _ _ (by rw [lnX_3]; omega), h.1.2.1 3 a (by decide) (by decide), if_neg (by decide), if_neg (by decide), if_neg (by decide), if_neg (by decide), if_neg (by decide), if_pos (show nI 5 = 5 from rfl), y18, ix, x_gd_t (x_inb_nI (by omega) (by decide)), x_ix_nI (by omega), (h.2.1.2.2.2.2.2.1 a ha).1]
      exact q_S.c _ _ _
    · have ix : (50 : Int32) + nI a = nI (50 + a) := nI_add 50 a
      rw [if_neg (show ¬ nI 6 = 5 by decide), k_tal35 e35, x_b_s, if_neg (show ¬ nI 6 = 0 by decide), if_neg (show ¬ nI 6 = 1 by decide), if_neg (show ¬ nI 6 = 2 by decide), if_neg (show ¬ nI 6 = 3 by decide), if_neg (show ¬ nI 6 = 4 by decide), if_neg (show ¬ nI 6 = 5 by decide), if_pos (show nI 6 = 6 from rfl), ix, x_gd_t (x_inb_nI (by omega) (by decide)), x_ix_nI (by omega), h.col (by omega) (Or.inr ⟨rfl, rfl⟩)]
      exact q_S.c _ _ _
  · rw [hb, x_b_s, if_pos rfl, if_neg (show ¬ x2 = 0 from fun q => hn 0 (by decide) q (by decide)), if_neg (show ¬ x2 = 1 from fun q => hn 1 (by decide) q (by decide)), if_neg (show ¬ x2 = 2 from fun q => hn 2 (by decide) q (by decide)), if_neg (show ¬ x2 = 3 from fun q => hn 3 (by decide) q (by decide)), if_neg (show ¬ x2 = 4 from fun q => hn 4 (by decide) q (by decide)), if_neg (show ¬ x2 = 5 from fun q => hn 5 (by decide) q (by decide)), if_neg (show ¬ x2 = 6 from fun q => hn 6 (by decide) q (by decide))]
    exact q_S.c _ _ _
theorem x_sm.hp35 (σ : x_Hp) (c : x_Sc) : x_sm σ (x_hp σ 35 (x_gS σ 35) c) := by
  intro a b n
  unfold x_Sb at n
  simp only [x_hp, x_gS]
  by_cases h1 : a = 35
  · subst h1
    by_cases h2 : b < 20 <;> simp [h2]
  · by_cases h2 : a = 36
    · subst h2
      by_cases h3 : b < 42
      · have : ¬ 20 + b < 20 := by omega
        simp [h3, this]
      · simp [h3]
    · rw [if_neg h1, if_neg h2, if_neg (by omega), if_neg (by omega)]
theorem q_law {σ μ : x_Hp} (h : r_V σ μ T lv N t v) (x : Int32) : q_S σ μ (F_X8_law x σ) (F_X9_law x μ) := by
  obtain ⟨n1, n6, n7⟩ := h.n
  obtain ⟨hlv, y18, y10⟩ := h.y18
  rw [F_X8_law, F_X9_law]
  refine q_gb x 0 6 rfl rfl (by decide) (by decide) ?_
  rintro k - k6 rfl
  rw [n1, y18, x_gd_t (x_inb_nI hlv (by decide)), x_ix_nI (by omega), y10]
  rcases Nat.eq_zero_or_pos N with z | z
  · rw [z, if_pos (show nI 0 = 0 from rfl), if_pos (show nI 0 = 0 from rfl)]; exact q_S.c _ _ _
  · rw [if_neg (nI_ne0 z (by omega)), if_neg (nI_ne0 z (by omega)), z_take h, x_b_s]
    have e := e_tells x_St35 h.1 (x_gS σ 35) (x_sc σ) (k := k) (by omega)
    rw [← x_hp_of σ x_St35] at e
    obtain ⟨c2, g⟩ := e
    obtain ⟨hI, w, hw, hC⟩ := J_G h.2.1 z h.2.2.2.2.1
    obtain ⟨d2, f⟩ := y_law h.t0 hw hC (y_sc μ) (k := k) (by omega)
    rw [g, f, x_b_s, x_b_s, h.2.2.2.1]
    refine q_S.d _ ?_ ((y_m0.sm μ lv).tr (y_sm.hp _ _ _))
    rw [← h.2.2.2.1]
    exact x_sm.hp35 _ _
end Q6
theorem x_gcd_step {a b : Nat} (h : 0 < b) : Nat.gcd a b = Nat.gcd b (a % b) := by
  rw [Nat.gcd_comm a b, Nat.gcd_rec b a, Nat.gcd_comm]
theorem x_mod_half {b r p : Nat} (hr : 0 < r) (hrb : r < b) (hb : b < 2 ^ (p + 1)) : b % r < 2 ^ p := by
  have h1 := Nat.mod_lt b hr
  have h2 : b % r ≤ b - r := by
    have := Nat.div_add_mod b r
    have hq : 1 ≤ b / r := (Nat.le_div_iff_mul_le hr).mpr (by omega)
    have : r * 1 ≤ r * (b / r) := Nat.mul_le_mul_left r hq
    omega
  rw [Nat.pow_succ] at hb
  omega
theorem c_gcd (σ : x_Hp) : ∀ (p n a b i : Nat), a < 2 ^ 31 → b < 2 ^ 31 → b < 2 ^ p → i + 2 * p + 1 ≤ 100 → 2 * p + 2 ≤ n → F_X8_commonDivisor_2 n (nI a) (nI b) (nI i) σ = some (nI (Nat.gcd a b), σ) := by
  have base : ∀ (n a i : Nat), F_X8_commonDivisor_2 (n + 1) (nI a) (nI 0) (nI i) σ = some (nI (Nat.gcd a 0), σ) := by
    intro n a i
    rw [F_X8_commonDivisor_2, Nat.gcd_zero_right]
    split
    · rfl
    · rw [if_pos (show nI 0 = 0 from rfl)]
  have one : ∀ (n a b i : Nat), a < 2 ^ 31 → b < 2 ^ 31 → 0 < b → i < 100 → F_X8_commonDivisor_2 (n + 1) (nI a) (nI b) (nI i) σ = F_X8_commonDivisor_2 n (nI b) (nI (a % b)) (nI (i + 1)) σ := by
    intro n a b i ha hb h0 hi
    have hd : (!decide (nI b = 0)) = true := by
      have := nI_ne0 h0 hb
      simpa using this
    rw [F_X8_commonDivisor_2, if_neg (show ¬ (100 : Int32) ≤ nI i from nI_ge (b := 100) hi (by decide)), if_neg (nI_ne0 h0 hb), x_gd_t hd, pk_rem ha h0 hb, nI_1]
  intro p
  induction p with
  | zero =>
    intro n a b i ha hb hbp hi hn
    obtain ⟨n, rfl⟩ : ∃ m, n = m + 1 := ⟨n - 1, by omega⟩
    have : b = 0 := by simpa using hbp
    subst this
    exact base n a i
  | succ p ih =>
    intro n a b i ha hb hbp hi hn
    obtain ⟨n, rfl⟩ : ∃ m, n = m + 2 := ⟨n - 2, by omega⟩
    rcases Nat.eq_zero_or_pos b with z | z
    · subst z; exact base (n + 1) a i
    · rw [one (n + 1) a b i ha hb z (by omega), x_gcd_step z]
      have hm := Nat.mod_lt a z
      rcases Nat.eq_zero_or_pos (a % b) with y | y
      · rw [y]; exact base n b (i + 1)
      · rw [one n b (a % b) (i + 1) hb (by omega) y (by omega), x_gcd_step y]
        exact ih n (a % b) (b % (a % b)) (i + 1 + 1) (by omega) (by have := Nat.mod_lt b y; omega) (x_mod_half y hm hbp) (by omega) (by omega)
theorem r_gcd (σ : x_Hp) : ∀ (p n a b : Nat), a < 2 ^ 31 → b < 2 ^ 31 → b < 2 ^ p → 2 * p + 2 ≤ n → F_X9_common_4 n (nI a) (nI b) σ = some (nI (Nat.gcd a b), σ) := by
  have base : ∀ (n a : Nat), F_X9_common_4 (n + 1) (nI a) (nI 0) σ = some (nI (Nat.gcd a 0), σ) := by
    intro n a
    rw [F_X9_common_4, Nat.gcd_zero_right, if_pos (show nI 0 = 0 from rfl)]
  have one : ∀ (n a b : Nat), a < 2 ^ 31 → b < 2 ^ 31 → 0 < b → F_X9_common_4 (n + 1) (nI a) (nI b) σ = F_X9_common_4 n (nI b) (nI (a % b)) σ := by
    intro n a b ha hb h0
    have hd : (!decide (nI b = 0)) = true := by
      have := nI_ne0 h0 hb
      simpa using this
    rw [F_X9_common_4, if_neg (nI_ne0 h0 hb), x_gd_t hd, pk_rem ha h0 hb]
  intro p
  induction p with
  | zero =>
    intro n a b ha hb hbp hn
    obtain ⟨n, rfl⟩ : ∃ m, n = m + 1 := ⟨n - 1, by omega⟩
    have : b = 0 := by simpa using hbp
    subst this
    exact base n a
  | succ p ih =>
    intro n a b ha hb hbp hn
    obtain ⟨n, rfl⟩ : ∃ m, n = m + 2 := ⟨n - 2, by omega⟩
    rcases Nat.eq_zero_or_pos b with z | z
    · subst z; exact base (n + 1) a
    · rw [one (n + 1) a b ha hb z, x_gcd_step z]
      have hm := Nat.mod_lt a z
      rcases Nat.eq_zero_or_pos (a % b) with y | y
      · rw [y]; exact base n b
      · rw [one n b (a % b) hb (by omega) y, x_gcd_step y]
        exact ih n (a % b) (b % (a % b)) (by omega) (by have := Nat.mod_lt b y; omega) (x_mod_half y hm hbp) (by omega)
section Q7
variable {T : x_TT} {lv N t : Nat} {v : x_V}
theorem q_likes {σ μ : x_Hp} (h : r_V σ μ T lv N t v) (ht : t ≤ 150000) (x1 x2 : Int32) : q_S σ μ (F_X8_likes x1 x2 σ) (F_X9_likes x1 x2 μ) := by
  obtain ⟨n1, n6, n7⟩ := h.n
  have e35 := h.2.2.2.1
  rw [F_X8_likes, F_X9_likes]
  refine q_ga h x1 ?_
  rintro a ha rfl
  obtain ⟨⟨hd, hd1, hd2⟩, cr, cr1, cr2⟩ := h.2.2.2.2.1.2.2.1 a (by omega)
  have t0 : m_tal v (nI a) 0 = nI hd := by
    have := m_tal_nI v (a := a) (w := 0) (by omega) (by decide)
    rw [show nI 0 = (0 : Int32) from rfl] at this
    rw [this, ← hd2]; congr 1
  have t1 : m_tal v (nI a) 1 = nI cr := by
    have := m_tal_nI v (a := a) (w := 1) (by omega) (by decide)
    rw [show nI 1 = (1 : Int32) from rfl] at this
    rw [this, ← cr2]; congr 1; omega
  have ix20 : (20 : Int32) + nI a = nI (20 + a) := nI_add 20 a
  have ix26 : (26 : Int32) + nI a = nI (26 + a) := nI_add 26 a
  have m20 : μ.1 31 (20 + a) = nI hd := by rw [h.col (a := a) (q := 0) (p := 20 + a) (by omega) (Or.inl ⟨by decide, by omega⟩)]; exact t0
  have m26 : μ.1 31 (26 + a) = nI cr := by rw [h.col (a := a) (q := 1) (p := 26 + a) (by omega) (Or.inl ⟨by decide, by omega⟩)]; exact t1
  rw [k_tal35 e35, x_b_s, t0, ix20, x_gd_t (x_inb_nI (by omega) (by decide)), x_ix_nI (by omega), m20]
  rcases Nat.eq_zero_or_pos hd with z | z
  · rw [z, if_pos (show nI 0 = 0 from rfl), if_pos (show nI 0 = 0 from rfl)]; exact q_S.c _ _ _
  · have g1 : F_X8_commonDivisor_2 x_fuel (nI hd) (nI cr) 0 σ = some (nI (Nat.gcd hd cr), σ) := c_gcd σ 24 x_fuel hd cr 0 (by omega) (by omega) (by omega) (by decide) (by decide)
    have g2 := r_gcd μ 24 x_fuel cr hd (by omega) (by omega) (by omega) (by decide)
    have gp : 0 < Nat.gcd hd cr := Nat.gcd_pos_of_pos_left _ z
    have gl : Nat.gcd hd cr ≤ hd := Nat.gcd_le_left _ z
    have gn := nI_ne0 gp (by omega)
    have gd : (!decide (nI (Nat.gcd hd cr) = 0)) = true := by simpa using gn
    rw [if_neg (nI_ne0 z (by omega)), if_neg (nI_ne0 z (by omega)), k_tal35 e35, x_b_s, t1, F_X8_commonDivisor, g1, x_b_s, ix26, x_gd_t (x_inb_nI (by omega) (by decide)), x_ix_nI (by omega), m26, F_X9_common, g2, x_b_s, Nat.gcd_comm cr hd, if_neg gn, x_gd_t gd, x_gd_t gd, x_gd_t (x_inb_nI (by omega) (by decide)), m26, x_gd_t gd, x_gd_t gd]
    by_cases q : x2 = 0
    · rw [if_pos q, if_pos q]; exact q_S.c _ _ _
    · rw [if_neg q, if_neg q]; exact q_S.c _ _ _
end Q7
