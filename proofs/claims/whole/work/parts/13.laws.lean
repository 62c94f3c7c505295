/-! THE CLASS'S LAWS -/
def x_pc (st pc : Nat → Int32) (q : Nat) (cs : List Int32) : Prop := q + 1 < 420 ∧ m_ok cs ∧ ∃ a : Nat, pc q = nI a ∧ pc (q + 1) = nI (a + cs.length) ∧ a + cs.length ≤ 420 ∧ ∀ i, i < cs.length → st (a + i) = cs.getD i 0
def x_brs (st pc : Nat → Int32) : Nat → List (List Int32 × List Int32 × List Int32) → List Int32 → Prop
  | p, [], z => x_pc st pc p z
  | p, q :: qs, z => x_pc st pc p q.1 ∧ x_pc st pc (p + 1) q.2.1 ∧ x_pc st pc (p + 2) q.2.2 ∧ x_brs st pc (p + 3) qs z
def x_Lw (st pc fp fi : Nat → Int32) (L : x_LW) : Prop := ∀ k, k < 7 → ∃ p0 : Nat, fp k = nI p0 ∧ fi k = nI (L k).1.length ∧ p0 + 3 * (L k).1.length + 1 < 420 ∧ x_brs st pc p0 (L k).1 (L k).2
def x_Tx (σ : x_Hp) (T : x_TT) : Prop := (∀ b, σ.1 1 b = T.1 1 b) ∧ (∀ a b, 3 ≤ a → a ≤ 7 → σ.1 a b = T.1 a b) ∧ x_Lw (σ.1 9) (σ.1 10) (σ.1 11) (σ.1 12) T.2
theorem x_hp_ln (σ : x_Hp) {s : Nat} (hs : x_St s) (v : x_V) (c : x_Sc) {a : Nat} (b : Nat) (h : a < 8 ∨ (8 < a ∧ a < 13) ∨ (13 < a ∧ a < 35)) : (x_hp σ s v c).1 a b = σ.1 a b := by
  have h1 := hs.facts.1
  exact x_hp_oth σ s v c b (by omega) (by omega) (by omega) (by omega)
theorem x_Tx.hp {σ : x_Hp} {T : x_TT} (h : x_Tx σ T) {s : Nat} (hs : x_St s) (v : x_V) (c : x_Sc) : x_Tx (x_hp σ s v c) T := by
  refine ⟨fun b => ?_, fun a b h1 h2 => ?_, ?_⟩
  · rw [x_hp_ln σ hs v c b (by omega)]; exact h.1 b
  · rw [x_hp_ln σ hs v c b (by omega)]; exact h.2.1 a b h1 h2
  · have e9 : (x_hp σ s v c).1 9 = σ.1 9 := funext fun b => x_hp_ln σ hs v c b (by omega)
    have e10 : (x_hp σ s v c).1 10 = σ.1 10 := funext fun b => x_hp_ln σ hs v c b (by omega)
    have e11 : (x_hp σ s v c).1 11 = σ.1 11 := funext fun b => x_hp_ln σ hs v c b (by omega)
    have e12 : (x_hp σ s v c).1 12 = σ.1 12 := funext fun b => x_hp_ln σ hs v c b (by omega)
    rw [e9, e10, e11, e12]; exact h.2.2
theorem x_aT_nI (σ : x_Hp) (r : Nat) {j : Nat} (h : j < x_ln TX r) : x_aT σ r (nI j) = σ.1 r j := by
  have := TX_len r
  rw [x_aT, if_pos (x_inb_nI h this), x_ix_nI (by omega)]
theorem x_pT_nI (σ : x_Hp) (r : Nat) {j : Nat} (h : j < x_ln TX r) (x : Int32) : x_pT σ r (nI j) x = x_pI σ r j x := by
  have := TX_len r
  rw [x_pT, if_pos (x_inb_nI h this), x_ix_nI (by omega)]
theorem e_join {s : Nat} (hs : x_St s) (sg l r : Int32) (σ : x_Hp) (v : x_V) (c : x_Sc) : F_X1_join 8 sg l r (x_hp σ s v c) = some ((m_join sg l r).1, x_hp σ s v (c.1, if (m_join sg l r).2 = true then 1 else c.2)) := by
  have key : F_X1_join_44 8 l r (x_hp σ s v c) = some ((if r = 0 then ((0 : Int32), true) else (l / r, false)).1, x_hp σ s v (c.1, if (if r = 0 then ((0 : Int32), true) else (l / r, false)).2 = true then 1 else c.2)) := by
    simp only [F_X1_join_44, x_pt, x_gd]
    by_cases hr : r = 0
    · simp [hr, x_hp_put8 σ hs]
    · simp [hr]
  simp only [F_X1_join, m_join]
  by_cases h1 : sg = 42
  · simp [h1]
  · by_cases h2 : sg = 43
    · simp [h2]
    · by_cases h3 : sg = 44
      · simp only [h3, key]; rfl
      · by_cases h4 : sg = 45
        · simp [h4]
        · simp only [h1, h2, h3, h4, if_false, key]
theorem m_run_t (v : x_V) : ∀ (cs st : List Int32), (m_run v cs st true).2 = true := by
  intro cs
  induction cs with
  | nil => intro st; rfl
  | cons c cs ih =>
    intro st
    simp only [m_run]
    split
    · exact ih _
    · split
      · rw [Bool.true_or]; exact ih _
      · rfl
theorem e_value_loop {s : Nat} (hs : x_St s) (σ : x_Hp) (v : x_V) : ∀ (cs : List Int32) (n i : Nat) (stk : List Int32) (c : x_Sc) (d : Bool), i + cs.length ≤ 420 → cs.length < n → (∀ j, j < cs.length → σ.1 9 (i + j) = cs.getD j 0) → m_dep cs stk.length = some 1 → (∀ j, j < stk.length → c.1 j = stk.getD (stk.length - 1 - j) 0) → (d = true → c.2 = 1) → stk.length ≤ 20 →
    ∃ c2 : x_Sc, F_X1_value_24 n 8 s (nI (i + cs.length)) (nI stk.length) (nI i) (x_hp σ s v c) = some ((m_run v cs stk d).1.headD 0, x_hp σ s v c2) ∧ c2.2 = if (m_run v cs stk d).2 = true then 1 else c.2 := by
  intro cs
  induction cs with
  | nil =>
    intro n i stk c d h1 h2 h3 h4 h5 h6 h7
    obtain ⟨n, rfl⟩ : ∃ m, n = m + 1 := ⟨n - 1, by simp at h2; omega⟩
    simp only [m_dep, Option.some.injEq] at h4
    refine ⟨c, ?_, ?_⟩
    · rw [F_X1_value_24, if_neg (nI_pos (by simp at h1; omega)), if_pos (by simp), F_X1_value_150, rfX_8_6, e_at, x_b_s]
      have e0 : x_aT (x_hp σ s v c) 13 0 = c.1 0 := by
        rw [show (0 : Int32) = nI 0 from rfl, x_aT_nI _ _ (by rw [lnX_13]; decide), x_hp_13 σ hs]
      rw [e0, h5 0 (by omega)]
      match stk, h4 with
      | [x], _ => rfl
    · simp only [m_run]
      cases d
      · rfl
      · exact h6 rfl
  | cons x cs ih =>
    intro n i stk c d h1 h2 h3 h4 h5 h6 h7
    simp only [List.length_cons] at h1 h2
    obtain ⟨n, rfl⟩ : ∃ m, n = m + 1 := ⟨n - 1, by omega⟩
    have hx : σ.1 9 i = x := by
      have := h3 0 (by simp)
      simpa using this
    have hx2 : (x_hp σ s v c).1 9 i = x := by rw [x_hp_ln σ hs v c i (by omega)]; exact hx
    have h3' : ∀ j, j < cs.length → σ.1 9 (i + 1 + j) = cs.getD j 0 := by
      intro j hj
      have := h3 (j + 1) (by simp; omega)
      rw [show i + 1 + j = i + (j + 1) by omega, this]
      simp
    rw [F_X1_value_24, if_neg (nI_pos (by omega)), if_neg (by exact nI_ge (by simp) (by simp; omega)), rfX_8_0, lnX_9, if_neg (by exact nI_ge (by omega) (by decide)), x_gd_t (x_inb_nI (by omega) (by decide)), x_ix_nI (by omega), hx2]
    have hlen : nI (i + (x :: cs).length) = nI (i + 1 + cs.length) := by
      congr 1; simp; omega
    rw [hlen]
    by_cases hc : x < 20000
    · rw [if_neg (by rw [Int32.le_iff_toInt_le]; rw [Int32.lt_iff_toInt_lt] at hc; omega)]
      simp only [m_dep, if_pos hc] at h4
      have hd20 : stk.length < 20 := by
        by_cases q : stk.length < 20
        · exact q
        · rw [if_neg q] at h4; cases h4
      rw [if_pos hd20] at h4
      have push : ∀ (y : Int32), ∃ c2 : x_Sc, F_X1_value_91 (F_X1_value_24 n) 8 s (nI (i + 1 + cs.length)) (nI stk.length) (nI i) y (nI stk.length) 13 (x_hp σ s v c) = some ((m_run v cs (y :: stk) d).1.headD 0, x_hp σ s v c2) ∧ c2.2 = if (m_run v cs (y :: stk) d).2 = true then 1 else c.2 := by
        intro y
        rw [F_X1_value_91, e_put, x_b_s, F_X1_value_144, x_pT_nI _ _ (by rw [lnX_13]; omega), x_hp_put13 σ hs, nI_1, nI_1]
        obtain ⟨c2, g1, g2⟩ := ih n (i + 1) (y :: stk) (x_u c.1 stk.length y, c.2) d (by omega) (by omega) h3' (by simpa using h4) (by
          intro j hj
          simp only [List.length_cons] at hj ⊢
          simp only [x_u]
          by_cases e : j = stk.length
          · subst e; simp
          · rw [if_neg e, h5 j (by omega), show stk.length + 1 - 1 - j = (stk.length - 1 - j) + 1 by omega]
            simp) h6 (by simp only [List.length_cons]; omega)
        exact ⟨c2, by simpa using g1, g2⟩
      simp only [m_run, if_pos hc]
      by_cases h10 : x < 10000
      · rw [if_neg (by rw [Int32.le_iff_toInt_le]; rw [Int32.lt_iff_toInt_lt] at h10; omega), if_pos h10, rfX_8_6]
        exact push x
      · rw [if_pos (by rw [Int32.le_iff_toInt_le]; rw [Int32.lt_iff_toInt_lt] at h10; omega), e_look, x_b_s, if_neg h10, rfX_8_6]
        exact push _
    · rw [if_pos (by rw [Int32.le_iff_toInt_le]; rw [Int32.lt_iff_toInt_lt] at hc; omega)]
      simp only [m_dep, if_neg hc] at h4
      have h2s : 2 ≤ stk.length := by
        by_cases q : 2 ≤ stk.length
        · exact q
        · rw [if_neg q] at h4; cases h4
      rw [if_pos h2s] at h4
      match stk, h2s with
      | r :: l :: st2, _ =>
        simp only [m_run, if_neg hc]
        simp only [List.length_cons] at h4 h5 ⊢
        have d1 : nI (st2.length + 1 + 1) + (-1) = nI (st2.length + 1) := sb_m1 (by omega)
        have d2 : nI (st2.length + 1) - 1 = nI st2.length := nI_pred _
        have l40 : st2.length + 1 < 40 := by
          simp only [List.length_cons] at h7
          omega
        rw [d1, d2, rfX_8_6, e_at, x_b_s, e_at, x_b_s, x_aT_nI _ _ (by rw [lnX_13]; omega), x_aT_nI _ _ (by rw [lnX_13]; omega), x_hp_13 σ hs, e_join hs, x_b_s, e_put, x_b_s, F_X1_value_144, x_pT_nI _ _ (by rw [lnX_13]; omega), x_hp_put13 σ hs, nI_1]
        have hl : c.1 st2.length = l := by rw [h5 _ (by omega)]; rw [show st2.length + 1 + 1 - 1 - st2.length = 1 by omega]; rfl
        have hr : c.1 (st2.length + 1) = r := by rw [h5 _ (by omega)]; rw [show st2.length + 1 + 1 - 1 - (st2.length + 1) = 0 by omega]; rfl
        rw [hl, hr]
        obtain ⟨c2, g1, g2⟩ := ih n (i + 1) ((m_join (x - 20000) l r).1 :: st2) (x_u c.1 st2.length (m_join (x - 20000) l r).1, if (m_join (x - 20000) l r).2 = true then 1 else c.2) (d || (m_join (x - 20000) l r).2) (by omega) (by omega) h3' (by simpa using h4) (by
          intro j hj
          simp only [List.length_cons] at hj ⊢
          simp only [x_u]
          by_cases e : j = st2.length
          · subst e; simp
          · rw [if_neg e, h5 j (by omega), show st2.length + 1 - 1 - j = (st2.length - 1 - j) + 1 by omega, show st2.length + 1 + 1 - 1 - j = (st2.length - 1 - j) + 1 + 1 by omega]
            simp) (by
          intro hd
          by_cases q : (m_join (x - 20000) l r).2 = true
          · simp [q]
          · simp only [Bool.not_eq_true] at q
            simp only [q, Bool.or_false] at hd
            simp [q, h6 hd]) (by simp only [List.length_cons] at h7 ⊢; omega)
        refine ⟨c2, by simpa using g1, ?_⟩
        rw [g2]
        by_cases q : (m_run v cs ((m_join (x - 20000) l r).1 :: st2) (d || (m_join (x - 20000) l r).2)).2 = true
        · simp [q]
        · simp only [if_neg q]
          have : (m_join (x - 20000) l r).2 ≠ true := by
            intro q2
            rw [q2, Bool.or_true] at q
            exact q (m_run_t v cs _)
          simp [this]

theorem e_value {s : Nat} (hs : x_St s) (σ : x_Hp) (v : x_V) (c : x_Sc) {q : Nat} {cs : List Int32} (h : x_pc (σ.1 9) (σ.1 10) q cs) : ∃ c2 : x_Sc, F_X1_value 8 (nI q) s (x_hp σ s v c) = some ((m_val v cs).1, x_hp σ s v c2) ∧ c2.2 = if (m_val v cs).2 = true then 1 else c.2 := by
  obtain ⟨hq, hok, a, h1, h2, h3, h4⟩ := h
  have g1 : (x_hp σ s v c).1 10 q = nI a := by rw [x_hp_ln σ hs v c q (by omega)]; exact h1
  have g2 : (x_hp σ s v c).1 10 (q + 1) = nI (a + cs.length) := by rw [x_hp_ln σ hs v c _ (by omega)]; exact h2
  rw [F_X1_value, rfX_8_2, e_at, x_b_s, e_at, x_b_s, nI_1, x_aT_nI _ _ (by rw [lnX_10]; omega), x_aT_nI _ _ (by rw [lnX_10]; omega), g1, g2]
  have := e_value_loop hs σ v cs x_fuel a [] c false h3 (by rw [x_fuel]; omega) h4 hok (fun j hj => absurd hj (Nat.not_lt_zero _)) (by simp) (by simp)
  exact this
theorem e_brs {s : Nat} (hs : x_St s) (σ : x_Hp) (v : x_V) (k : Nat) : ∀ (qs : List (List Int32 × List Int32 × List Int32)) (z : List Int32) (n p : Nat) (c : x_Sc) (t0 : Int32), x_brs (σ.1 9) (σ.1 10) p qs z → qs.length < n → p + 3 * qs.length + 1 < 420 → c.2 = 0 →
    ∃ c2 : x_Sc, F_X1_tells_34 n 8 (nI k) s (nI p) (nI (p + 3 * qs.length)) t0 0 (x_hp σ s v c) = some (x_wi (if (m_br v qs z).2 = true then 0 else (m_br v qs z).1) (x_sv_LEAST_TOLD (nI k)) (x_sv_MOST_TOLD_BY (nI k)), x_hp σ s v c2) := by
  intro qs
  induction qs with
  | nil =>
    intro z n p c t0 h1 h2 h3 h4
    obtain ⟨n, rfl⟩ : ∃ m, n = m + 1 := ⟨n - 1, by simp at h2; omega⟩
    obtain ⟨c2, g1, g2⟩ := e_value hs σ v c h1
    rw [h4] at g2
    rw [F_X1_tells_34, if_pos (by simp), F_X1_tells_114, if_pos rfl, x_hp_8 σ hs, if_pos h4]
    simp only [List.length_nil, Nat.mul_zero, Nat.add_zero]
    rw [g1, x_b_s, F_X1_tells_135, x_hp_8 σ hs]
    simp only [m_br]
    rcases (Bool.eq_false_or_eq_true (m_val v z).2).symm with hd | hd
    · rw [hd] at g2
      simp only [hd]
      rw [if_pos (by simpa using g2), F_X1_tells_148, e_within, x_b_s]
      exact ⟨c2, by simp⟩
    · rw [hd] at g2
      simp only [hd]
      rw [if_neg (by rw [g2]; decide), F_X1_tells_148, e_within, x_b_s]
      exact ⟨c2, by simp⟩
  | cons q qs ih =>
    intro z n p c t0 h1 h2 h3 h4
    simp only [List.length_cons] at h2 h3 ⊢
    obtain ⟨n, rfl⟩ : ∃ m, n = m + 1 := ⟨n - 1, by omega⟩
    obtain ⟨b1, b2, b3, b4⟩ := h1
    -- what happens once it is decided: nothing more is looked at
    have fin : ∀ (m : Nat) (c3 : x_Sc) (w : Int32) (p2 x4 : Int32), 0 < m → x4 ≤ p2 ∨ True → ∃ c2 : x_Sc, F_X1_tells_34 m 8 (nI k) s p2 x4 w 1 (x_hp σ s v c3) = some (x_wi (if c3.2 = 0 then w else 0) (x_sv_LEAST_TOLD (nI k)) (x_sv_MOST_TOLD_BY (nI k)), x_hp σ s v c2) := by
      intro m c3 w p2 x4 hm _
      obtain ⟨m, rfl⟩ : ∃ j, m = j + 1 := ⟨m - 1, by omega⟩
      have k114 : F_X1_tells_114 8 (nI k) s x4 w 1 (x_hp σ s v c3) = some (x_wi (if c3.2 = 0 then w else 0) (x_sv_LEAST_TOLD (nI k)) (x_sv_MOST_TOLD_BY (nI k)), x_hp σ s v c3) := by
        rw [F_X1_tells_114, if_neg (by decide), F_X1_tells_135, x_hp_8 σ hs]
        by_cases q : c3.2 = 0
        · rw [if_pos q, F_X1_tells_148, e_within, x_b_s, if_pos q]
        · rw [if_neg q, F_X1_tells_148, e_within, x_b_s, if_neg q]
      refine ⟨c3, ?_⟩
      rw [F_X1_tells_34]
      by_cases q : x4 ≤ p2
      · rw [if_pos q, k114]
      · rw [if_neg q, if_neg (by decide), k114]
    have brk : ∀ (m : Nat) (c3 : x_Sc) (w x6 : Int32) (p2 x4 : Int32), 0 < m → c3.2 = 1 → (x6 = 0 ∨ x6 = 1) → ∃ c2 : x_Sc, F_X1_tells_34 m 8 (nI k) s p2 x4 w x6 (x_hp σ s v c3) = some (x_wi 0 (x_sv_LEAST_TOLD (nI k)) (x_sv_MOST_TOLD_BY (nI k)), x_hp σ s v c2) := by
      intro m c3 w x6 p2 x4 hm h1 h6
      obtain ⟨m, rfl⟩ : ∃ j, m = j + 1 := ⟨m - 1, by omega⟩
      have n0 : ¬ c3.2 = 0 := by rw [h1]; decide
      have k114 : F_X1_tells_114 8 (nI k) s x4 w x6 (x_hp σ s v c3) = some (x_wi 0 (x_sv_LEAST_TOLD (nI k)) (x_sv_MOST_TOLD_BY (nI k)), x_hp σ s v c3) := by
        rw [F_X1_tells_114, x_hp_8 σ hs]
        rcases h6 with rfl | rfl
        · rw [if_pos rfl, if_neg n0, F_X1_tells_135, x_hp_8 σ hs, if_neg n0, F_X1_tells_148, e_within, x_b_s]
        · rw [if_neg (by decide), F_X1_tells_135, x_hp_8 σ hs, if_neg n0, F_X1_tells_148, e_within, x_b_s]
      refine ⟨c3, ?_⟩
      rw [F_X1_tells_34]
      by_cases q : x4 ≤ p2
      · rw [if_pos q, k114]
      · rw [if_neg q]
        rcases h6 with rfl | rfl
        · rw [if_pos rfl, x_hp_8 σ hs, if_neg n0, k114]
        · rw [if_neg (by decide), k114]
    have step3 : nI p + (3 : Int32) = nI (p + 3) := nI_add p 3
    obtain ⟨c1, g1, d1⟩ := e_value hs σ v c b1
    rw [h4] at d1
    rw [F_X1_tells_34, if_neg (nI_ge (by omega) (by omega)), if_pos rfl, x_hp_8 σ hs, if_pos h4, g1, x_b_s, x_hp_8 σ hs]
    simp only [m_br]
    rcases (Bool.eq_false_or_eq_true (m_val v q.1).2).symm with e1 | e1
    · rw [e1] at d1
      rw [if_pos (by simpa using d1), nI_1]
      obtain ⟨c2, g2, d2⟩ := e_value hs σ v c1 b2
      rw [g2, x_b_s, F_X1_tells_79, x_hp_8 σ hs]
      simp only [e1, Bool.false_eq_true, if_false] at d1 ⊢
      rcases (Bool.eq_false_or_eq_true (m_val v q.2.1).2).symm with e2 | e2
      · rw [e2] at d2
        simp only [e2, Bool.false_eq_true, if_false] at d2 ⊢
        rw [if_pos (by rw [d2, d1])]
        by_cases hl : (m_val v q.1).1 < (m_val v q.2.1).1
        · rw [if_neg (by rw [Int32.le_iff_toInt_le]; rw [Int32.lt_iff_toInt_lt] at hl; omega), if_pos hl]
          obtain ⟨c3, g3, d3⟩ := e_value hs σ v c2 b3
          rw [show nI p + (2 : Int32) = nI (p + 2) from nI_add p 2, g3, x_b_s, F_X1_tells_108]
          obtain ⟨c4, g4⟩ := fin n c3 (m_val v q.2.2).1 (nI p + 3) (nI (p + 3 * (qs.length + 1))) (by omega) (Or.inr trivial)
          refine ⟨c4, ?_⟩
          rw [g4, d3, d2, d1]
          rcases Bool.eq_false_or_eq_true (m_val v q.2.2).2 with e3 | e3 <;> simp [e3]
        · rw [if_pos (by rw [Int32.le_iff_toInt_le]; rw [Int32.lt_iff_toInt_lt] at hl; omega), if_neg hl, F_X1_tells_108, step3]
          obtain ⟨c4, g4⟩ := ih z n (p + 3) c2 t0 b4 (by omega) (by omega) (by rw [d2, d1])
          rw [show p + 3 * (qs.length + 1) = p + 3 + 3 * qs.length by omega]
          exact ⟨c4, g4⟩
      · rw [e2] at d2
        simp only [e2, if_true] at d2 ⊢
        rw [if_neg (by rw [d2]; decide), F_X1_tells_108]
        exact brk n c2 t0 0 _ _ (by omega) d2 (Or.inl rfl)
    · rw [e1] at d1
      simp only [e1, if_true] at d1 ⊢
      rw [if_neg (by rw [d1]; decide), F_X1_tells_79, x_hp_8 σ hs, if_neg (by rw [d1]; decide), F_X1_tells_108]
      exact brk n c1 t0 0 _ _ (by omega) d1 (Or.inl rfl)
theorem e_tells {s : Nat} (hs : x_St s) {σ : x_Hp} {T : x_TT} (hT : x_Tx σ T) (v : x_V) (c : x_Sc) {k : Nat} (hk : k < 7) : ∃ c2 : x_Sc, F_X1_tells 8 (nI k) s (x_hp σ s v c) = some (m_tells T k v, x_hp σ s v c2) := by
  obtain ⟨p0, h1, h2, h3, h4⟩ := hT.2.2 k hk
  rw [F_X1_tells, x_pt, x_hp_put8 σ hs, rfX_8_4, e_at, x_b_s, rfX_8_5, e_at, x_b_s, x_aT_nI _ _ (by rw [lnX_11]; exact hk), x_aT_nI _ _ (by rw [lnX_12]; exact hk), x_hp_ln σ hs _ _ _ (by omega), x_hp_ln σ hs _ _ _ (by omega), h1, h2]
  rw [show (3 : Int32) * nI (T.2 k).1.length = nI (3 * (T.2 k).1.length) from pk_mul 3 _, nI_add]
  exact e_brs hs σ v k (T.2 k).1 (T.2 k).2 x_fuel p0 (c.1, 0) 0 h4 (by rw [x_fuel]; omega) h3 rfl
