/-! THE REFERENCE'S MINUTE: its row is that of the state v -/
def y_Tx (μ : x_Hp) (T : x_TT) (lv N : Nat) : Prop := lv < 2 ∧ N ≤ 6 ∧ μ.1 0 18 = nI lv ∧ T.1 1 7 = nI N ∧ μ.1 10 lv = nI N ∧ (∀ a, a < N → μ.1 11 (6 * lv + a) = T.1 3 a ∧ μ.1 12 (6 * lv + a) = T.1 4 a ∧ μ.1 13 (6 * lv + a) = T.1 5 a ∧ μ.1 14 (6 * lv + a) = T.1 6 a ∧ μ.1 15 (6 * lv + a) = T.1 7 a) ∧ μ.1 16 lv = T.1 1 4 ∧ μ.1 17 lv = T.1 1 5 ∧ μ.1 18 lv = T.1 1 6 ∧ (∀ k, k < 4 → μ.1 9 (4 * lv + k) = T.1 1 k) ∧ y_Lw μ lv T.2
/-- what the text's numbers keep to -/
def m_TB (T : x_TT) (N : Nat) : Prop := (∃ f, f ≤ 99 ∧ T.1 1 4 = nI f) ∧ (∃ f, f ≤ 99 ∧ T.1 1 5 = nI f) ∧ (∀ k, k < 4 → ∃ b, b ≤ 99 ∧ T.1 1 k = nI b) ∧ ∀ a, a < N → T.1 7 a = 0 ∨ T.1 7 a = 1
/-- she who has it, her ways as they count now, the seed -/
def y_C (μ : x_Hp) (T : x_TT) (v : x_V) (w : Nat) : Prop := v 9 = nI w ∧ (if nI w = μ.1 0 51 then μ.1 0 52 else T.1 3 w) = v 5 ∧ T.1 4 w = v 6 ∧ T.1 5 w = v 7 ∧ μ.1 0 50 = v 16
def z_hp (μ : x_Hp) (v : x_V) (c : y_Sc) : x_Hp := y_hp μ (y_rv v) c
theorem y_rv_g (v : x_V) {j k : Nat} (hk : y_pos j = k) (hj : j < 20) (h20 : k < 20) : y_rv v k = v j := by
  subst hk
  rw [y_rv, if_pos h20, y_lo]
  have hd : j = 0 ∨ j = 1 ∨ j = 2 ∨ j = 3 ∨ j = 4 ∨ j = 5 ∨ j = 6 ∨ j = 7 ∨ j = 8 ∨ j = 9 ∨ j = 10 ∨ j = 11 ∨ j = 12 ∨ j = 13 ∨ j = 14 ∨ j = 15 ∨ j = 16 ∨ j = 17 ∨ j = 18 ∨ j = 19 := by omega
  generalize m_all v 1 = A1
  generalize m_all v 2 = A2
  generalize m_all v 4 = A4
  rcases hd with rfl | rfl | rfl | rfl | rfl | rfl | rfl | rfl | rfl | rfl | rfl | rfl | rfl | rfl | rfl | rfl | rfl | rfl | rfl | rfl <;> first | rfl | (exfalso; exact absurd h20 (by decide))
theorem z_get (μ : x_Hp) (v : x_V) (c : y_Sc) (j : Nat) {k : Nat} (hk : y_pos j = k) (hj : j < 20) (h20 : k < 20) : (z_hp μ v c).1 32 k = v j := by
  rw [z_hp, y_row _ _ _ (by omega), y_rv_g v hk hj h20]
theorem z_put (μ : x_Hp) (v : x_V) (c : y_Sc) (j : Nat) {k : Nat} (hk : y_pos j = k) (hj : j < 20) (h20 : k < 20) (x : Int32) : x_pI (z_hp μ v c) 32 k x = z_hp μ (x_u v j x) c := by
  rw [z_hp, z_hp, y_put _ _ _ (by omega)]
  refine y_hp_congr μ c (fun i hi => ?_)
  rw [y_rv_u v hj x i hi, hk]
theorem z_oth (μ : x_Hp) (v : x_V) (c : y_Sc) {a : Nat} (b : Nat) (h1 : a ≠ 32) (h2 : a ≠ 29) (h3 : a ≠ 30) (h4 : a ≠ 33) (h5 : a ≠ 0 ∨ b ≠ 47) : (z_hp μ v c).1 a b = μ.1 a b := y_oth μ _ c b h1 h2 h3 h4 h5
theorem z_0 (μ : x_Hp) (v : x_V) (c : y_Sc) {b : Nat} (h : b ≠ 47) : (z_hp μ v c).1 0 b = μ.1 0 b := z_oth μ v c b (by decide) (by decide) (by decide) (by decide) (Or.inr h)
theorem z_lo (μ : x_Hp) (v : x_V) (c : y_Sc) {a : Nat} (b : Nat) (h0 : 0 < a) (h1 : a < 29) : (z_hp μ v c).1 a b = μ.1 a b := z_oth μ v c b (by omega) (by omega) (by omega) (by omega) (Or.inl (by omega))
theorem y_held_wi {x a b : Int32} (hab : a ≤ b) (σ : x_Hp) : F_X9_held x a b σ = some (x_wi x a b, σ) := by
  rw [F_X9_held, x_wi]
  rw [Int32.le_iff_toInt_le] at hab
  by_cases h1 : a ≤ x
  · rw [if_pos h1]
    by_cases h2 : x ≤ b
    · rw [if_pos h2]
      by_cases h3 : x < b
      · rw [if_pos h3]
        by_cases h4 : a < x
        · rw [if_pos h4]
        · rw [if_neg h4]
          have : a = x := by
            rw [Int32.le_iff_toInt_le] at h1; rw [Int32.lt_iff_toInt_lt] at h4
            exact Int32.toInt_inj.mp (by omega)
          rw [this]
      · have e : x = b := by
          rw [Int32.le_iff_toInt_le] at h2; rw [Int32.lt_iff_toInt_lt] at h3
          exact Int32.toInt_inj.mp (by omega)
        rw [if_neg h3, e]
        by_cases h4 : a < b
        · rw [if_pos h4]
        · rw [if_neg h4]
          have : a = b := by
            rw [Int32.lt_iff_toInt_lt] at h4
            exact Int32.toInt_inj.mp (by omega)
          rw [this]
    · rw [if_neg h2]
      have h3 : ¬ x < b := by rw [Int32.lt_iff_toInt_lt]; rw [Int32.le_iff_toInt_le] at h2; omega
      rw [if_neg h3]
      by_cases h4 : a < b
      · rw [if_pos h4]
      · rw [if_neg h4]
        have : a = b := by
          rw [Int32.lt_iff_toInt_lt] at h4
          exact Int32.toInt_inj.mp (by omega)
        rw [this]
  · rw [if_neg h1]
    have h3 : x < b := by rw [Int32.lt_iff_toInt_lt]; rw [Int32.le_iff_toInt_le] at h1; omega
    have h4 : ¬ a < x := by rw [Int32.lt_iff_toInt_lt]; rw [Int32.le_iff_toInt_le] at h1; omega
    rw [if_pos h3, if_neg h4]
theorem y_term (μ : x_Hp) (ρ : Nat → Int32) (v : x_V) (c : y_Sc) {a e : Int32} {cs : List Int32} (h : y_cd μ a e cs) (hv : ∀ j, j < 9 → c.2.1 j = m_var v (nI j)) : ∃ p2 : Nat → Int32, F_X9_termOf a e (y_hp μ ρ c) = some (if (m_val v cs).2 = true then 0 else (m_val v cs).1, y_hp μ ρ (if (m_val v cs).2 = true then 1 else c.1, c.2.1, p2, c.2.2.2)) := by
  obtain ⟨hok, f, rfl, rfl, h3, h4⟩ := h
  rw [F_X9_termOf]
  exact y_term_loop μ ρ v cs x_fuel f [] c h3 (by rw [x_fuel]; omega) h4 hok (fun j hj => absurd hj (Nat.not_lt_zero _)) (by simp) hv
theorem y_brs_len (μ : x_Hp) : ∀ (qs : List (List Int32 × List Int32 × List Int32)) (z : List Int32) (f : Nat), y_brs μ f qs z → f + qs.length < 260 := by
  intro qs
  induction qs with
  | nil => intro z f h; exact h.1
  | cons q qs ih =>
    intro z f h
    have := ih z (f + 1) h.2.2.2.2.2
    simp only [List.length_cons]
    omega
theorem y_brs_ok (μ : x_Hp) (ρ : Nat → Int32) (v : x_V) (lo hi : Int32) (hlh : lo ≤ hi) (ik : Nat) (hik : ik < 14) : ∀ (qs : List (List Int32 × List Int32 × List Int32)) (z : List Int32) (n f : Nat) (c : y_Sc), y_brs μ f qs z → qs.length < n → c.1 = 0 → (∀ j, j < 9 → c.2.1 j = m_var v (nI j)) → μ.1 20 ik = nI (f + qs.length + 1) →
    ∃ c2 : y_Sc, F_X9_tells_176 n lo hi (nI ik) (nI f) (y_hp μ ρ c) = some (if (m_br v qs z).2 = true then 0 else x_wi (m_br v qs z).1 lo hi, y_hp μ ρ c2) ∧ c2.2.2.2 = c.2.2.2 := by
  have rd : ∀ (c : y_Sc) (a b : Nat), 0 < a → a < 29 → (y_hp μ ρ c).1 a b = μ.1 a b := fun c a b h0 h1 => y_oth μ ρ c b (by omega) (by omega) (by omega) (by omega) (Or.inl (by omega))
  have last : ∀ (z : List Int32) (f : Nat) (c : y_Sc), f < 260 → y_cd μ (μ.1 24 f) (μ.1 25 f) z → c.1 = 0 → (∀ j, j < 9 → c.2.1 j = m_var v (nI j)) → ∃ c2 : y_Sc, F_X9_tells_257 lo hi (nI f) (y_hp μ ρ c) = some (if (m_val v z).2 = true then 0 else x_wi (m_val v z).1 lo hi, y_hp μ ρ c2) ∧ c2.2.2.2 = c.2.2.2 := by
    intro z f c hf hz h0 hv
    obtain ⟨p2, g⟩ := y_term μ ρ v c hz hv
    rw [F_X9_tells_257, x_gd_t (x_inb_nI hf (by decide)), x_gd_t (x_inb_nI hf (by decide)), x_ix_nI (by omega), rd c 24 f (by decide) (by decide), rd c 25 f (by decide) (by decide), g, x_b_s, y_brk]
    by_cases hb : (m_val v z).2 = true
    · simp only [if_pos hb]
      rw [if_neg (by decide)]
      exact ⟨_, rfl, rfl⟩
    · simp only [if_neg hb]
      rw [if_pos h0, y_held_wi hlh, x_b_s]
      exact ⟨_, rfl, rfl⟩
  intro qs
  induction qs with
  | nil =>
    intro z n f c h1 h2 h3 h4 h5
    obtain ⟨n, rfl⟩ : ∃ m, n = m + 1 := ⟨n - 1, by simp at h2; omega⟩
    obtain ⟨hf, ht, hz⟩ := h1
    rw [F_X9_tells_176, x_gd_t (x_inb_nI hik (by decide)), x_ix_nI (by omega), rd c 20 ik (by decide) (by decide), h5, if_neg (nI_ge (by simp) (by simp; omega)), x_gd_t (x_inb_nI hf (by decide)), x_ix_nI (by omega), rd c 21 f (by decide) (by decide), ht, if_pos rfl]
    exact last z f c hf hz h3 h4
  | cons q qs ih =>
    intro z n f c h1 h2 h3 h4 h5
    simp only [List.length_cons] at h2 h5
    obtain ⟨n, rfl⟩ : ∃ m, n = m + 1 := ⟨n - 1, by omega⟩
    obtain ⟨hf, ht, b1, b2, b3, b4⟩ := h1
    obtain ⟨p1, g1⟩ := y_term μ ρ v c b1 h4
    have hfi : x_inb (nI f) 260 = true := x_inb_nI hf (by decide)
    rw [F_X9_tells_176, x_gd_t (x_inb_nI hik (by decide)), x_ix_nI (by omega), rd c 20 ik (by decide) (by decide), h5, if_neg (nI_ge (by omega) (by have := y_brs_len μ qs z _ b4; omega)), x_gd_t hfi, x_ix_nI (by omega), rd c 21 f (by decide) (by decide), ht, if_neg (by decide), x_gd_t hfi, x_gd_t hfi, rd c 22 f (by decide) (by decide), rd c 23 f (by decide) (by decide), g1, x_b_s, x_gd_t hfi, x_gd_t hfi, rd _ 23 f (by decide) (by decide), rd _ 24 f (by decide) (by decide)]
    obtain ⟨p2, g2⟩ := y_term μ ρ v (if (m_val v q.1).2 = true then 1 else c.1, c.2.1, p1, c.2.2.2) b2 h4
    rw [g2, x_b_s, y_brk]
    simp only [m_br]
    by_cases e1 : (m_val v q.1).2 = true
    · simp only [if_pos e1]
      by_cases e2 : (m_val v q.2.1).2 = true
      · simp only [if_pos e2]
        rw [if_neg (by decide)]; exact ⟨_, rfl, rfl⟩
      · simp only [if_neg e2]
        rw [if_neg (by decide)]; exact ⟨_, rfl, rfl⟩
    · simp only [if_neg e1]
      by_cases e2 : (m_val v q.2.1).2 = true
      · simp only [if_pos e2]
        rw [if_neg (by decide)]; exact ⟨_, rfl, rfl⟩
      · simp only [if_neg e2]
        rw [if_pos h3]
        by_cases hl : (m_val v q.1).1 < (m_val v q.2.1).1
        · rw [if_pos hl, if_pos hl]
          exact last q.2.2 f (c.1, c.2.1, p2, c.2.2.2) hf b3 h3 h4
        · rw [if_neg hl, if_neg hl, nI_1]
          exact ih z n (f + 1) (c.1, c.2.1, p2, c.2.2.2) b4 (by omega) h3 h4 (by rw [h5]; congr 1; omega)

def y_pl (k : Nat) : Int32 := if k < 2 then 1 else 0
def y_least (k : Nat) : Int32 := if k < 4 then -9 else 0
def y_most (k : Nat) : Int32 := if k < 4 then 9 else if k = 4 then 99 else if k = 5 then 1 else 100
theorem y_lm : ∀ k, k < 7 → y_least k ≤ y_most k ∧ x_sv_LEAST_TOLD (nI k) = y_least k ∧ x_sv_MOST_TOLD_BY (nI k) = y_most k ∧ x_wi 0 (y_least k) (y_most k) = 0 ∧ x_wi (y_pl k) (y_least k) (y_most k) = y_pl k := by decide +kernel
theorem m_tells_y (T : x_TT) (v : x_V) {k : Nat} (hk : k < 7) : m_tells T k v = if (m_br v (T.2 k).1 (T.2 k).2).2 = true then 0 else x_wi (m_br v (T.2 k).1 (T.2 k).2).1 (y_least k) (y_most k) := by
  obtain ⟨h1, h2, h3, h4, -⟩ := y_lm k hk
  rw [m_tells, h2, h3]
  split
  · exact h4
  · rfl
theorem y_tells {μ : x_Hp} {T : x_TT} {lv N w : Nat} (hT : y_Tx μ T lv N) {v : x_V} (hw : w < N) (hC : y_C μ T v w) (c : y_Sc) {k : Nat} (hk : k < 7) : ∃ c2 : y_Sc, F_X9_tells (nI k) (y_pl k) (y_least k) (y_most k) (z_hp μ v c) = some (m_tells T k v, z_hp μ v c2) ∧ c2.2.2.2 = c.2.2.2 := by
  obtain ⟨hlv, hN, h18, h17, h10, hA, hf1, hf2, hf3, hb, hL⟩ := hT
  obtain ⟨c9, c5, c6, c7, c16⟩ := hC
  have ix : (7 : Int32) * nI lv + nI k = nI (7 * lv + k) := by rw [show (7 : Int32) * nI lv = nI (7 * lv) from pk_mul 7 lv, nI_add]
  have ia : (6 : Int32) * nI lv + nI w = nI (6 * lv + w) := by rw [show (6 : Int32) * nI lv = nI (6 * lv) from pk_mul 6 lv, nI_add]
  have i14 : x_inb (nI (7 * lv + k)) 14 = true := x_inb_nI (by omega) (by decide)
  have i12 : x_inb (nI (6 * lv + w)) 12 = true := x_inb_nI (by omega) (by decide)
  rw [F_X9_tells, z_0 μ v c (by decide), h18, ix, x_gd_t i14, x_gd_t i14, x_ix_nI (by omega), z_lo μ v c _ (by decide) (by decide), z_lo μ v c _ (by decide) (by decide)]
  have hlm := y_lm k hk
  rcases hL k hk with ⟨e, eL⟩ | ⟨f, e1, e2, e3, _⟩
  · rw [if_pos e]
    refine ⟨c, ?_, rfl⟩
    have : m_tells T k v = y_pl k := by
      rw [m_tells_y T v hk, eL]
      have em : m_br v [] [if k < 2 then (1 : Int32) else 0] = (y_pl k, false) := by
        rw [y_pl]
        split <;> rfl
      rw [em]
      exact hlm.2.2.2.2
    rw [this]
  · have ne : ¬ μ.1 19 (7 * lv + k) = μ.1 20 (7 * lv + k) := by
      rw [e1, e2]
      have := y_brs_len μ _ _ _ e3
      intro q
      have := (nI_eq (by omega) (by omega)).mp q
      omega
    rw [if_neg ne, z_get μ v c 9 (k := 4) rfl (by decide) (by decide), c9, ia]
    -- the variables are written down
    have lp : ∀ (d n i : Nat) (c : y_Sc), i + d = 4 → d < n → F_X9_tells_49 n (y_least k) (y_most k) (nI (7 * lv + k)) (nI (6 * lv + w)) (nI i) (z_hp μ v c) = F_X9_tells_49 (n - d) (y_least k) (y_most k) (nI (7 * lv + k)) (nI (6 * lv + w)) (nI 4) (z_hp μ v (c.1, (fun j => if i ≤ j ∧ j < 4 then v j else c.2.1 j), c.2.2.1, c.2.2.2)) := by
      intro d
      induction d with
      | zero =>
        intro n i c h1 h2
        have : i = 4 := by omega
        subst this
        have e : (fun j => if 4 ≤ j ∧ j < 4 then v j else c.2.1 j) = c.2.1 := by funext j; rw [if_neg (by omega)]
        rw [e]; rfl
      | succ d ih =>
        intro n i c h1 h2
        obtain ⟨n, rfl⟩ : ∃ m, n = m + 1 := ⟨n - 1, by omega⟩
        have hi4 : y_pos i = i := by
          have : i = 0 ∨ i = 1 ∨ i = 2 ∨ i = 3 := by omega
          rcases this with rfl | rfl | rfl | rfl <;> rfl
        rw [F_X9_tells_49, show (4 : Int32) = nI 4 from rfl, if_neg (nI_ge (by omega) (by omega)), x_gd_t (x_inb_nI (by omega) (by decide)), x_gd_t (x_inb_nI (by omega) (by decide)), x_pt_s, x_ix_nI (by omega), z_get μ v c i hi4 (by omega) (by omega), z_hp, y_put29, nI_1]
        have := ih n (i + 1) (c.1, x_u c.2.1 i (v i), c.2.2.1, c.2.2.2) (by omega) (by omega)
        rw [z_hp] at this
        rw [this, show n + 1 - (d + 1) = n - d by omega]
        congr 3
        congr 1
        funext j
        simp only [x_u]
        by_cases hj : i + 1 ≤ j ∧ j < 4
        · rw [if_pos hj, if_pos (by omega)]
        · rw [if_neg hj]
          by_cases hj2 : j = i
          · subst hj2; rw [if_pos rfl, if_pos (by omega)]
          · rw [if_neg hj2, if_neg (by omega)]
    rw [show (0 : Int32) = nI 0 from rfl, lp 4 x_fuel 0 c (by omega) (by decide), show x_fuel - 4 = 65531 + 1 from rfl, F_X9_tells_49, if_pos (by decide), x_pt_s, z_get μ v _ 4 (k := 5) rfl (by decide) (by decide), z_hp, y_put29, ← z_hp, z_get μ v _ 9 (k := 4) rfl (by decide) (by decide), z_0 μ v _ (by decide), z_0 μ v _ (by decide), c9]
    have hAw := hA w hw
    have go : ∀ (c : y_Sc), (∀ j, j < 4 → c.2.1 j = v j) → c.2.1 4 = v 4 → ∃ c2 : y_Sc, F_X9_tells_119 (y_least k) (y_most k) (nI (7 * lv + k)) (nI (6 * lv + w)) (v 5) 5 (z_hp μ v c) = some (m_tells T k v, z_hp μ v c2) ∧ c2.2.2.2 = c.2.2.2 := by
      intro c k1 k2
      rw [F_X9_tells_119, x_gd_t (by decide), x_pt_s, show x_ix (5 : Int32) = 5 from rfl, z_hp, y_put29, ← z_hp, x_gd_t i12, x_pt_s, x_ix_nI (by omega), z_lo μ v _ _ (by decide) (by decide), hAw.2.1, c6, z_hp, y_put29, ← z_hp, x_gd_t i12, x_pt_s, z_lo μ v _ _ (by decide) (by decide), hAw.2.2.1, c7, z_hp, y_put29, ← z_hp, x_pt_s, z_get μ v _ 8 (k := 9) rfl (by decide) (by decide), z_hp, y_put29, x_pt_s, y_putb, x_gd_t i14, x_ix_nI (by omega), ← z_hp, z_lo μ v _ _ (by decide) (by decide), e1, z_hp, m_tells_y T v hk]
      refine y_brs_ok μ (y_rv v) v (y_least k) (y_most k) hlm.1 (7 * lv + k) (by omega) (T.2 k).1 (T.2 k).2 x_fuel f _ e3 (by have := y_brs_len μ _ _ _ e3; rw [x_fuel]; omega) rfl (fun j hj => ?_) e2
      have hc : j = 0 ∨ j = 1 ∨ j = 2 ∨ j = 3 ∨ j = 4 ∨ j = 5 ∨ j = 6 ∨ j = 7 ∨ j = 8 := by omega
      rcases hc with rfl | rfl | rfl | rfl | rfl | rfl | rfl | rfl | rfl
      · exact k1 0 (by decide)
      · exact k1 1 (by decide)
      · exact k1 2 (by decide)
      · exact k1 3 (by decide)
      · exact k2
      · rfl
      · rfl
      · rfl
      · rfl
    by_cases hr : nI w = μ.1 0 51
    · rw [if_pos hr]
      rw [if_pos hr] at c5
      rw [c5]
      exact go _ (fun j hj => by
        have : j ≠ 4 := by omega
        simp only [x_u, if_neg this]
        rw [if_pos ⟨Nat.zero_le _, hj⟩]) rfl
    · rw [if_neg hr]
      rw [if_neg hr] at c5
      rw [x_gd_t i12, x_ix_nI (by omega), z_lo μ v _ _ (by decide) (by decide), hAw.1, c5]
      exact go _ (fun j hj => by
        have : j ≠ 4 := by omega
        simp only [x_u, if_neg this]
        rw [if_pos ⟨Nat.zero_le _, hj⟩]) rfl
