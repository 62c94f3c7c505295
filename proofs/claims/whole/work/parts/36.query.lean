/-! THE QUERIES, both sides: the least of what was offered -/
def l_N (σ : x_Hp) : Prop := σ.1 167 2 = 0
def l_A (σ : x_Hp) (b l : Int32) : Prop := σ.1 167 2 = 1 ∧ σ.1 167 0 = b ∧ σ.1 167 1 = l ∧ ¬ l < 0
theorem l_begin (σ : x_Hp) : ∃ τ, F_X2_begin 167 σ = some ((), τ) ∧ x_sm σ τ ∧ l_N τ := by
  refine ⟨x_pI (x_pI (x_pI σ 167 2 0) 167 0 0) 167 1 0, rfl, ?_, ?_⟩
  · exact ((x_sm.put (by unfold x_Sb; omega) _).tr (x_sm.put (by unfold x_Sb; omega) _)).tr (x_sm.put (by unfold x_Sb; omega) _)
  · rw [l_N, x_pI_1, if_neg (by omega), x_pI_1, if_neg (by omega), x_pI_1, if_pos ⟨rfl, rfl⟩]
theorem l_offer (σ : x_Hp) (b l w x : Int32) (hx : ¬ x < 0) (h : (l_N σ ∧ l < 0) ∨ l_A σ b l) : ((l < 0 ∨ x < l) ∧ ∃ τ, F_X2_offer 167 w x σ = some ((), τ) ∧ x_sm σ τ ∧ l_A τ w x) ∨ ((¬ l < 0 ∧ ¬ x < l) ∧ F_X2_offer 167 w x σ = some ((), σ) ∧ l_A σ b l) := by
  have put : ∃ τ, F_X2_offer_15 167 w x σ = some ((), τ) ∧ x_sm σ τ ∧ l_A τ w x := by
    refine ⟨x_pI (x_pI (x_pI σ 167 2 1) 167 0 w) 167 1 x, rfl, ?_, ?_, ?_, ?_, hx⟩
    · exact ((x_sm.put (by unfold x_Sb; omega) _).tr (x_sm.put (by unfold x_Sb; omega) _)).tr (x_sm.put (by unfold x_Sb; omega) _)
    · rw [x_pI_1, if_neg (by omega), x_pI_1, if_neg (by omega), x_pI_1, if_pos ⟨rfl, rfl⟩]
    · rw [x_pI_1, if_neg (by omega), x_pI_1, if_pos ⟨rfl, rfl⟩]
    · rw [x_pI_1, if_pos ⟨rfl, rfl⟩]
  rw [F_X2_offer]
  rcases h with ⟨h, hl⟩ | h
  · left
    rw [l_N] at h
    rw [if_pos h]
    exact ⟨Or.inl hl, put⟩
  · obtain ⟨h2, h0, h1, hl⟩ := id h
    rw [h2, if_neg (by decide), h1]
    by_cases hq : l ≤ x
    · right
      rw [if_pos hq]
      refine ⟨⟨hl, ?_⟩, rfl, h⟩
      rw [Int32.lt_iff_toInt_lt]; rw [Int32.le_iff_toInt_le] at hq; omega
    · left
      rw [if_neg hq]
      refine ⟨Or.inr ?_, put⟩
      rw [Int32.lt_iff_toInt_lt]; rw [Int32.le_iff_toInt_le] at hq; omega
theorem l_hp (σ : x_Hp) (v : x_V) (c : x_Sc) (b : Nat) : (x_hp σ 37 v c).1 167 b = σ.1 167 b := x_hp_oth σ 37 v c b (by decide) (by decide) (by decide) (by decide)
theorem l_N.hp {σ : x_Hp} {v : x_V} {c : x_Sc} (h : l_N σ) : l_N (x_hp σ 37 v c) := by rw [l_N, l_hp]; exact h
theorem l_A.hp {σ : x_Hp} {b l : Int32} {v : x_V} {c : x_Sc} (h : l_A σ b l) : l_A (x_hp σ 37 v c) b l := by
  rw [l_A, l_hp, l_hp, l_hp]; exact h
theorem l_NA.hp {σ : x_Hp} {b l : Int32} {P : Prop} {v : x_V} {c : x_Sc} (h : (l_N σ ∧ P) ∨ l_A σ b l) : (l_N (x_hp σ 37 v c) ∧ P) ∨ l_A (x_hp σ 37 v c) b l := by
  rcases h with ⟨h, p⟩ | h
  · exact Or.inl ⟨h.hp, p⟩
  · exact Or.inr h.hp
theorem l_pick {σ : x_Hp} {b l : Int32} (h : l_A σ b l) (x : Int32) : F_X2_pick 167 x σ = some (if x = 0 then b else l, σ) := by
  rw [F_X2_pick, h.2.1, h.2.2.1]
  split <;> rfl
theorem i_yes {α : Type} {l x : Int32} {A B : α} (h : l < 0 ∨ x < l) : (if l < 0 then A else if x < l then A else B) = A := by
  by_cases h1 : l < 0
  · rw [if_pos h1]
  · rw [if_neg h1, if_pos (h.resolve_left h1)]
theorem i_no {α : Type} {l x : Int32} {A B : α} (h : ¬ l < 0 ∧ ¬ x < l) : (if l < 0 then A else if x < l then A else B) = B := by
  rw [if_neg h.1, if_neg h.2]
theorem i_pick {α : Type} (x : Int32) (b l : Int32) (μ : α) : (if x = 0 then some (b, μ) else some (l, μ)) = some (if x = 0 then b else l, μ) := by split <;> rfl
theorem J_H {μ : x_Hp} {T : x_TT} {lv N t : Nat} {u : x_V} (hT : y_Tx μ T lv N) (h : m_J T N t u) : y_H (y_m0 μ lv) T N u := by
  obtain ⟨hJ, h16, -⟩ := h
  rcases hJ with q | q
  · refine Or.inl (q.G hT.2.1 (y_m0_51 μ lv) ?_)
    rw [y_m0, y_set_50, hT.2.2.2.2.2.2.2.2.1, h16]
  · exact Or.inr q
theorem J_G {μ : x_Hp} {T : x_TT} {lv N t : Nat} {u : x_V} (hT : y_Tx μ T lv N) (h0 : 0 < N) (h : m_J T N t u) : y_G (y_m0 μ lv) T N u := by
  rcases J_H hT h with q | q
  · exact q
  · exact absurd h0 (by rw [q.1]; omega)
theorem m_J.W {T : x_TT} {N t : Nat} {u : x_V} (h0 : 0 < N) (h : m_J T N t u) : m_Wy T N u := by
  rcases h.1 with q | q
  · exact q
  · exact absurd h0 (by rw [q.1]; omega)
theorem isShort_eq (x : Int32) (μ : x_Hp) : F_X9_isShort x μ = F_X9_in x 1 10 μ := by
  rw [F_X9_isShort, F_X9_in]
  split
  · rw [x_b_s, x_gd_t (by decide)]
  · split
    · rw [x_b_s, x_gd_t (by decide)]
    · rw [x_b_s, x_gd_t (by decide)]
theorem q_gb {σ μ : x_Hp} {A B : Int32 → x_Hp → Option (Int32 × x_Hp)} {r : Int32} (x : Int32) {a' b' : Int32} (a b : Nat) (ha : a' = nI a) (hb : b' = nI b) (h31 : b < 2 ^ 31) (hab : a ≤ b) (h : ∀ j, a ≤ j → j ≤ b → x = nI j → q_S σ μ (A 1 σ) (B 1 μ)) : q_S σ μ (x_b (F_X8_between x a' b' σ) (fun v1 σ1 => if v1 = 0 then some (r, σ1) else A v1 σ1)) (x_b (F_X9_in x a' b' μ) (fun v1 σ1 => if v1 = 0 then some (r, σ1) else B v1 σ1)) := by
  rcases q_btw x a b ha hb h31 hab with ⟨k, k1, k2, e, hb, hi⟩ | ⟨hb, hi, -⟩
  · rw [hb, hi, x_b_s, x_b_s, if_neg (by decide), if_neg (by decide)]; exact h k k1 k2 e
  · rw [hb, hi, x_b_s, x_b_s, if_pos rfl, if_pos rfl]; exact q_S.c _ _ _
section QQ
variable {T : x_TT} {lv N t : Nat} {v : x_V}
theorem q_gw {σ μ : x_Hp} {A B : Int32 → x_Hp → Option (Int32 × x_Hp)} {r : Int32} (hV : r_V σ μ T lv N t v) (h : 0 < N → v 13 = nI 0 → m_Wy T N v → q_S σ μ (A 0 σ) (B 1 μ)) : q_S σ μ (x_b (F_X8_asleepOrAlone σ) (fun v1 σ1 => if v1 = 0 then A v1 σ1 else some (r, σ1))) (x_b (F_X9_isAwake μ) (fun v1 σ1 => if v1 = 0 then some (r, σ1) else B v1 σ1)) := by
  rcases q_awake hV with ⟨a, b, c, d, e⟩ | ⟨a, b, -⟩
  · rw [a, b, x_b_s, x_b_s, if_pos rfl, if_neg (by decide)]; exact h c d e
  · rw [a, b, x_b_s, x_b_s, if_neg (by decide), if_pos rfl]; exact q_S.c _ _ _
theorem q_ga {σ μ : x_Hp} {A B : Int32 → x_Hp → Option (Int32 × x_Hp)} {r : Int32} (hV : r_V σ μ T lv N t v) (x : Int32) (h : ∀ a, a < N → x = nI a → q_S σ μ (A 1 σ) (B 1 μ)) : q_S σ μ (x_b (F_X8_isAunt x σ) (fun v1 σ1 => if v1 = 0 then some (r, σ1) else A v1 σ1)) (x_b (F_X9_isAunt x μ) (fun v1 σ1 => if v1 = 0 then some (r, σ1) else B v1 σ1)) := by
  rcases q_aunt hV x with ⟨a, ha, e, b, c⟩ | ⟨b, c⟩
  · rw [b, c, x_b_s, x_b_s, if_neg (by decide), if_neg (by decide)]; exact h a ha e
  · rw [b, c, x_b_s, x_b_s, if_pos rfl, if_pos rfl]; exact q_S.c _ _ _
theorem q_awake1 {σ μ : x_Hp} (h : r_V σ μ T lv N t v) (h0 : 0 < N) (h13 : v 13 = nI 0) : F_X8_asleepOrAlone σ = some (0, σ) ∧ F_X9_isAwake μ = some (1, μ) := by
  rcases q_awake h with ⟨a, b, -⟩ | ⟨-, -, q | q⟩
  · exact ⟨a, b⟩
  · omega
  · rw [h13] at q; exact absurd q (by decide)
/-- what is cried in k minutes from u on: both say it, and it is a number -/
theorem q_cried {σ μ ν : x_Hp} (hV : r_V σ μ T lv N t v) {t2 : Nat} {u : x_V} (hJ : m_J T N t2 u) (hm : y_Tx ν T lv N) (hH : y_H ν T N u) (c : x_Sc) (d : y_Sc) {k : Nat} (hk : k < 60000) : ∃ s c2 d2, s ≤ 99 * k ∧ F_X0_cried 34 37 (nI k) (x_hp σ 37 u c) = some (nI s, x_hp σ 37 (m_goes T k u) c2) ∧ F_X9_cries (nI k) (z_hp ν u d) = some (nI s, z_hp ν (m_goes T k u) d2) := by
  obtain ⟨c2, g⟩ := e_cried x_St37 hV.1 u c (k := k) (by omega)
  obtain ⟨d2, f⟩ := z_cries hm hH d (k := k) (by omega)
  obtain ⟨s, h1, h2⟩ := m_cryN hV.n.2.2 hV.n.2.1 k hJ.IZ
  rw [h2] at g f
  exact ⟨s, c2, d2, h1, g, f⟩
theorem q_crying {σ μ : x_Hp} (h : r_V σ μ T lv N t v) (x : Int32) : q_S σ μ (F_X8_crying x σ) (F_X9_crying x μ) := by
  rw [F_X8_crying, F_X9_crying]
  refine q_gb x 0 240 rfl rfl (by decide) (by decide) ?_
  rintro k - k2 rfl
  rw [k_take h, z_take h, x_b_s, x_b_s]
  obtain ⟨s, c2, d2, -, g, f⟩ := q_cried h h.2.2.2.2.1 h.t0 h.H (x_sc σ) (y_sc μ) (k := k) (by omega)
  rw [g, f, x_b_s, x_b_s]
  exact q_S.d _ (x_sm.hp _ _ _) ((y_m0.sm μ lv).tr (y_sm.hp _ _ _))
theorem q_next_loop {k : Nat} (hk : k ≤ 120) (x2 : Int32) (hN1 : 1 < N) (h13 : v 13 = nI 0) : ∀ (d n n' i : Nat) (b l : Int32) (σ μ : x_Hp), r_V σ μ T lv N t v → i + d = N → d < n → d < n' → ((l_N σ ∧ b < 0 ∧ (i = 0 ∨ (i = 1 ∧ v 9 = nI 0))) ∨ (l_A σ b l ∧ ¬ b < 0)) → q_S σ μ (F_X8_next_54 n (nI k) x2 (nI i) σ) (F_X9_next_31 n' (nI k) x2 b l (nI i) μ) := by
  intro d
  induction d with
  | zero =>
    intro n n' i b l σ μ h h1 h2 h3 h4
    obtain ⟨n, rfl⟩ : ∃ m, n = m + 1 := ⟨n - 1, by omega⟩
    obtain ⟨n', rfl⟩ : ∃ m, n' = m + 1 := ⟨n' - 1, by omega⟩
    obtain ⟨n1, n6, -⟩ := h.n
    obtain ⟨hlv, y18, y10⟩ := h.y18
    have hi : i = N := by omega
    subst hi
    rw [F_X8_next_54, F_X9_next_31, n1, if_pos (nI_le (Nat.le_refl _) (by omega)), y18, x_gd_t (x_inb_nI hlv (by decide)), x_ix_nI (by omega), y10, if_pos (nI_le (Nat.le_refl _) (by omega))]
    rcases h4 with ⟨-, -, q⟩ | ⟨q, -⟩
    · omega
    · rw [l_pick q, x_b_s, i_pick]; exact q_S.c _ _ _
  | succ d ih =>
    intro n n' i b l σ μ h h1 h2 h3 h4
    obtain ⟨n, rfl⟩ : ∃ m, n = m + 1 := ⟨n - 1, by omega⟩
    obtain ⟨n', rfl⟩ : ∃ m, n' = m + 1 := ⟨n' - 1, by omega⟩
    obtain ⟨n1, n6, -⟩ := h.n
    obtain ⟨hlv, y18, y10⟩ := h.y18
    have m4 := h.m (k := 4) 9 rfl (by decide) (by decide)
    rw [F_X8_next_54, F_X9_next_31, n1, if_neg (nI_ge (by omega) (by omega)), y18, x_gd_t (x_inb_nI hlv (by decide)), x_ix_nI (by omega), y10, if_neg (nI_ge (by omega) (by omega)), (q_awake1 h (by omega) h13).2, x_b_s, if_neg (show ¬ (1 : Int32) = 0 by decide), h.g (by decide), m4]
    by_cases hw : nI i = v 9
    · rw [if_pos hw, if_pos hw, F_X8_next_119, F_X9_next_104, nI_1]
      refine ih n n' (i + 1) b l σ μ h (by omega) (by omega) (by omega) ?_
      rcases h4 with ⟨p, q, r⟩ | q
      · refine Or.inl ⟨p, q, Or.inr ?_⟩
        rcases r with r | r
        · subst r; exact ⟨rfl, hw.symm⟩
        · exfalso
          rw [r.2, r.1] at hw
          exact absurd ((nI_eq (by omega) (by omega)).mp hw) (by decide)
      · exact Or.inr q
    · have hJ := h.2.2.2.2.1.over n6 h.2.2.1 (b := i) (by omega)
      have hWI : m_I N v := (h.2.2.2.2.1.W (by omega)).1
      rw [if_neg hw, if_neg hw, k_take h, z_take h, x_b_s, x_b_s, e_over x_St37 h.1, y_hands h.t0 h.2.2.1 hWI _ (by omega), x_b_s, x_b_s]
      obtain ⟨s, c2, d2, hs99, g, f⟩ := q_cried h hJ h.t0 (J_H h.2.1 hJ) (x_sc σ) (y_sc μ) (k := k) (by omega)
      have hs : ¬ nI s < 0 := nI_pos (by omega)
      rw [g, f, x_b_s, x_b_s]
      have hmu : y_sm μ (z_hp (y_m0 μ lv) (m_goes T k (m_over T v (nI i))) d2) := (y_m0.sm μ lv).tr (y_sm.hp _ _ _)
      have hA : (l_N (x_hp σ 37 (m_goes T k (m_over T v (nI i))) c2) ∧ b < 0) ∨ (l_A (x_hp σ 37 (m_goes T k (m_over T v (nI i))) c2) b l ∧ ¬ b < 0) := by
        rcases h4 with ⟨p, q, -⟩ | ⟨q, r⟩
        · exact Or.inl ⟨p.hp, q⟩
        · exact Or.inr ⟨q.hp, r⟩
      have hi0 : ¬ nI i < 0 := nI_pos (by omega)
      rcases hA with ⟨hn, hb⟩ | ⟨hA, hb⟩
      · rcases l_offer (x_hp σ 37 (m_goes T k (m_over T v (nI i))) c2) 0 (-1) (nI i) (nI s) hs (Or.inl ⟨hn, by decide⟩) with ⟨-, τ, o, sm, a⟩ | ⟨⟨q, -⟩, -⟩
        · rw [o, x_b_s, if_pos hb, F_X8_next_119, F_X9_next_97, F_X9_next_104, nI_1]
          exact q_S.tr ((x_sm.hp _ _ _).tr sm) hmu (ih n n' (i + 1) (nI i) (nI s) τ _ (h.sm ((x_sm.hp _ _ _).tr sm) hmu) (by omega) (by omega) (by omega) (Or.inr ⟨a, hi0⟩))
        · exact absurd (by decide) q
      · rw [if_neg hb]
        rcases l_offer (x_hp σ 37 (m_goes T k (m_over T v (nI i))) c2) b l (nI i) (nI s) hs (Or.inr hA) with ⟨q, τ, o, sm, a⟩ | ⟨⟨-, q⟩, o, -⟩
        · have q : nI s < l := q.resolve_left hA.2.2.2
          rw [o, x_b_s, if_pos q, F_X8_next_119, F_X9_next_97, F_X9_next_104, nI_1]
          exact q_S.tr ((x_sm.hp _ _ _).tr sm) hmu (ih n n' (i + 1) (nI i) (nI s) τ _ (h.sm ((x_sm.hp _ _ _).tr sm) hmu) (by omega) (by omega) (by omega) (Or.inr ⟨a, hi0⟩))
        · rw [o, x_b_s, if_neg q, F_X8_next_119, F_X9_next_104, nI_1]
          exact q_S.tr (x_sm.hp _ _ _) hmu (ih n n' (i + 1) b l _ _ (h.sm (x_sm.hp _ _ _) hmu) (by omega) (by omega) (by omega) (Or.inr ⟨hA, hb⟩))
theorem q_next {σ μ : x_Hp} (h : r_V σ μ T lv N t v) (x1 x2 : Int32) : q_S σ μ (F_X8_next x1 x2 σ) (F_X9_next x1 x2 μ) := by
  obtain ⟨n1, n6, -⟩ := h.n
  obtain ⟨hlv, y18, y10⟩ := h.y18
  rw [F_X8_next, F_X9_next]
  refine q_gb x1 1 120 rfl rfl (by decide) (by decide) ?_
  rintro k - k2 rfl
  refine q_gb x2 0 1 rfl rfl (by decide) (by decide) ?_
  rintro w - w2 rfl
  rw [h.g (by decide), n1]
  have stop : ∀ (n : Nat), (N = 0 ∨ 0 < v 13 ∨ N = 1) → F_X9_next_31 (n + 2) (nI k) (nI w) (-2) (-2) 0 μ = some (-2, μ) := by
    intro n hN
    rw [F_X9_next_31, y18, x_gd_t (x_inb_nI hlv (by decide)), x_ix_nI (by omega), y10]
    rcases Nat.eq_zero_or_pos N with z | z
    · rw [if_pos (by rw [z]; decide), i_pick]; split <;> rfl
    · rw [if_neg (show ¬ nI N ≤ 0 from nI_nle z (by omega))]
      rcases q_awake h with ⟨-, q, -, q13, qW⟩ | ⟨-, q, -⟩
      · have N1 : N = 1 := by
          rcases hN with r | r | r
          · omega
          · rw [q13] at r; exact absurd r (by decide)
          · exact r
        obtain ⟨w', hw', e9⟩ := qW.1.1
        rw [q, x_b_s, if_neg (show ¬ (1 : Int32) = 0 by decide), h.m (k := 4) 9 rfl (by decide) (by decide), e9, show w' = 0 by omega, if_pos (show (0 : Int32) = nI 0 from rfl), F_X9_next_104, F_X9_next_31, y18, x_gd_t (x_inb_nI hlv (by decide)), x_ix_nI (by omega), y10, if_pos (by rw [N1]; decide), i_pick]
        split <;> rfl
      · rw [q, x_b_s, if_pos rfl, i_pick]; split <;> rfl
  by_cases h13 : 0 < v 13
  · have := stop 65534 (Or.inr (Or.inl h13))
    rw [if_pos h13, show x_fuel = 65534 + 2 from rfl, this]; exact q_S.c _ _ _
  · rw [if_neg h13]
    by_cases hN2 : 2 ≤ N
    · rw [if_pos (show (2 : Int32) ≤ nI N from nI_le (a := 2) hN2 (by omega))]
      obtain ⟨τ, o, sm, ln⟩ := l_begin σ
      obtain ⟨a, a60, e13⟩ := (h.2.2.2.2.1.W (by omega)).1.2.1
      have a0 : v 13 = nI 0 := by
        rcases Nat.eq_zero_or_pos a with z | z
        · rw [e13, z]
        · exact absurd (by rw [e13]; exact nI_lt (a := 0) z (by omega)) h13
      rw [o, x_b_s]
      exact q_S.tr sm (y_sm.rf μ) (q_next_loop (by omega) (nI w) (by omega) a0 N x_fuel x_fuel 0 (-2) (-2) τ μ (h.sm sm (y_sm.rf μ)) (by omega) (by rw [x_fuel]; omega) (by rw [x_fuel]; omega) (Or.inl ⟨ln, by decide, Or.inl rfl⟩))
    · have := stop 65534 (by omega)
      rw [if_neg (show ¬ (2 : Int32) ≤ nI N from nI_ge (b := 2) (by omega) (by omega)), show x_fuel = 65534 + 2 from rfl, this]; exact q_S.c _ _ _
end QQ
