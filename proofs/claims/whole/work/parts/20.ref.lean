/-! THE REFERENCE'S HEAP: the row is ρ; c: what it writes down on the way (its mark, the variables, the pile, the changes) -/
abbrev y_Sc : Type := Int32 × (Nat → Int32) × (Nat → Int32) × (Nat → Int32)
def y_hp (μ : x_Hp) (ρ : Nat → Int32) (c : y_Sc) : x_Hp := (fun a b => if a = 32 then (if b < 60 then ρ b else μ.1 32 b) else if a = 29 then c.2.1 b else if a = 30 then c.2.2.1 b else if a = 33 then c.2.2.2 b else if a = 0 ∧ b = 47 then c.1 else μ.1 a b, μ.2)
def y_sc (μ : x_Hp) : y_Sc := (μ.1 0 47, μ.1 29, μ.1 30, μ.1 33)
theorem y_hp_of (μ : x_Hp) : μ = y_hp μ (μ.1 32) (y_sc μ) := by
  refine x_ext (fun a b => ?_) rfl
  simp only [y_hp, y_sc]
  repeat' split
  all_goals first | rfl | (subst_vars; rfl) | skip
  rename_i h; rw [h.1, h.2]
theorem y_row (μ : x_Hp) (ρ : Nat → Int32) (c : y_Sc) {k : Nat} (h : k < 60) : (y_hp μ ρ c).1 32 k = ρ k := by simp [y_hp, h]
theorem y_29 (μ : x_Hp) (ρ : Nat → Int32) (c : y_Sc) : (y_hp μ ρ c).1 29 = c.2.1 := by funext k; simp [y_hp]
theorem y_30 (μ : x_Hp) (ρ : Nat → Int32) (c : y_Sc) : (y_hp μ ρ c).1 30 = c.2.2.1 := by funext k; simp [y_hp]
theorem y_33 (μ : x_Hp) (ρ : Nat → Int32) (c : y_Sc) : (y_hp μ ρ c).1 33 = c.2.2.2 := by funext k; simp [y_hp]
theorem y_brk (μ : x_Hp) (ρ : Nat → Int32) (c : y_Sc) : (y_hp μ ρ c).1 0 47 = c.1 := by simp [y_hp]
theorem y_oth (μ : x_Hp) (ρ : Nat → Int32) (c : y_Sc) {a : Nat} (b : Nat) (h1 : a ≠ 32) (h2 : a ≠ 29) (h3 : a ≠ 30) (h4 : a ≠ 33) (h5 : a ≠ 0 ∨ b ≠ 47) : (y_hp μ ρ c).1 a b = μ.1 a b := by
  have : ¬ (a = 0 ∧ b = 47) := by omega
  simp [y_hp, h1, h2, h3, h4, this]
theorem y_put (μ : x_Hp) (ρ : Nat → Int32) (c : y_Sc) {k : Nat} (h : k < 60) (x : Int32) : x_pI (y_hp μ ρ c) 32 k x = y_hp μ (x_u ρ k x) c := by
  refine x_ext (fun a b => ?_) rfl
  rw [x_pI_1]
  simp only [y_hp, x_u]
  by_cases ha : a = 32
  · subst ha
    by_cases hb : b = k
    · subst hb; simp [h]
    · simp [hb]
  · simp [ha]
theorem y_put29 (μ : x_Hp) (ρ : Nat → Int32) (c : y_Sc) (k : Nat) (x : Int32) : x_pI (y_hp μ ρ c) 29 k x = y_hp μ ρ (c.1, x_u c.2.1 k x, c.2.2.1, c.2.2.2) := by
  refine x_ext (fun a b => ?_) rfl
  rw [x_pI_1]
  simp only [y_hp, x_u]
  by_cases ha : a = 29
  · subst ha
    by_cases hb : b = k <;> simp [hb]
  · simp [ha]
theorem y_put30 (μ : x_Hp) (ρ : Nat → Int32) (c : y_Sc) (k : Nat) (x : Int32) : x_pI (y_hp μ ρ c) 30 k x = y_hp μ ρ (c.1, c.2.1, x_u c.2.2.1 k x, c.2.2.2) := by
  refine x_ext (fun a b => ?_) rfl
  rw [x_pI_1]
  simp only [y_hp, x_u]
  by_cases ha : a = 30
  · subst ha
    by_cases hb : b = k <;> simp [hb]
  · simp [ha]
theorem y_put33 (μ : x_Hp) (ρ : Nat → Int32) (c : y_Sc) (k : Nat) (x : Int32) : x_pI (y_hp μ ρ c) 33 k x = y_hp μ ρ (c.1, c.2.1, c.2.2.1, x_u c.2.2.2 k x) := by
  refine x_ext (fun a b => ?_) rfl
  rw [x_pI_1]
  simp only [y_hp, x_u]
  by_cases ha : a = 33
  · subst ha
    by_cases hb : b = k <;> simp [hb]
  · simp [ha]
theorem y_putb (μ : x_Hp) (ρ : Nat → Int32) (c : y_Sc) (x : Int32) : x_pI (y_hp μ ρ c) 0 47 x = y_hp μ ρ (x, c.2.1, c.2.2.1, c.2.2.2) := by
  refine x_ext (fun a b => ?_) rfl
  rw [x_pI_1]
  simp only [y_hp]
  by_cases ha : a = 0 ∧ b = 47
  · obtain ⟨rfl, rfl⟩ := ha; simp
  · simp [ha]
/-! its laws -/
def y_tok (k i c : Int32) : Prop := (k = 0 ∧ i = c ∧ c < 10000) ∨ (k = 1 ∧ ∃ j : Nat, j < 9 ∧ i = nI j ∧ c = nI (10000 + j)) ∨ (k = 2 ∧ c = 20043) ∨ (k = 3 ∧ c = 20045) ∨ (k = 4 ∧ c = 20042) ∨ (k = 5 ∧ c = 20047)
def y_cd (μ : x_Hp) (a e : Int32) (cs : List Int32) : Prop := m_ok cs ∧ ∃ f : Nat, a = nI f ∧ e = nI (f + cs.length) ∧ f + cs.length ≤ 840 ∧ ∀ i, i < cs.length → y_tok (μ.1 26 (f + i)) (μ.1 27 (f + i)) (cs.getD i 0)
def y_brs (μ : x_Hp) : Nat → List (List Int32 × List Int32 × List Int32) → List Int32 → Prop
  | b, [], z => b < 260 ∧ μ.1 21 b = 0 ∧ y_cd μ (μ.1 24 b) (μ.1 25 b) z
  | b, q :: qs, z => b < 260 ∧ μ.1 21 b = 1 ∧ y_cd μ (μ.1 22 b) (μ.1 23 b) q.1 ∧ y_cd μ (μ.1 23 b) (μ.1 24 b) q.2.1 ∧ y_cd μ (μ.1 24 b) (μ.1 25 b) q.2.2 ∧ y_brs μ (b + 1) qs z
/-- a law's branches lie in the text's own part of the rows -/
def y_rg (μ : x_Hp) (lv f l : Nat) : Prop := 130 * lv ≤ f ∧ f + l + 1 ≤ 130 * lv + 130 ∧ ∀ b r, f ≤ b → b ≤ f + l → 22 ≤ r → r ≤ 25 → (24 ≤ r ∨ b < f + l) → ∃ c : Nat, μ.1 r b = nI c ∧ 420 * lv ≤ c ∧ c ≤ 420 * lv + 420
def y_Lw (μ : x_Hp) (lv : Nat) (L : x_LW) : Prop := ∀ k, k < 7 → (μ.1 19 (7 * lv + k) = μ.1 20 (7 * lv + k) ∧ L k = ([], [if k < 2 then 1 else 0])) ∨ (∃ f : Nat, μ.1 19 (7 * lv + k) = nI f ∧ μ.1 20 (7 * lv + k) = nI (f + (L k).1.length + 1) ∧ y_brs μ f (L k).1 (L k).2 ∧ y_rg μ lv f (L k).1.length)
theorem y_10k : (10000 : Int32) = nI 10000 := by decide +kernel
theorem y_20k : (20000 : Int32) = nI 20000 := by decide +kernel
theorem y_term_loop (μ : x_Hp) (ρ : Nat → Int32) (v : x_V) : ∀ (cs : List Int32) (n i : Nat) (stk : List Int32) (c : y_Sc), i + cs.length ≤ 840 → cs.length < n → (∀ j, j < cs.length → y_tok (μ.1 26 (i + j)) (μ.1 27 (i + j)) (cs.getD j 0)) → m_dep cs stk.length = some 1 → (∀ j, j < stk.length → c.2.2.1 j = stk.getD (stk.length - 1 - j) 0) → stk.length ≤ 20 → (∀ j, j < 9 → c.2.1 j = m_var v (nI j)) →
    ∃ p2 : Nat → Int32, F_X9_termOf_5 n (nI (i + cs.length)) (nI stk.length) (nI i) (y_hp μ ρ c) = some (if (m_run v cs stk false).2 = true then 0 else (m_run v cs stk false).1.headD 0, y_hp μ ρ (if (m_run v cs stk false).2 = true then 1 else c.1, c.2.1, p2, c.2.2.2)) := by
  intro cs
  induction cs with
  | nil =>
    intro n i stk c h1 h2 h3 h4 h5 h6 h7
    obtain ⟨n, rfl⟩ : ∃ m, n = m + 1 := ⟨n - 1, by simp at h2; omega⟩
    simp only [m_dep, Option.some.injEq] at h4
    refine ⟨c.2.2.1, ?_⟩
    rw [F_X9_termOf_5, if_pos (by simp), y_30, h5 0 (by omega)]
    match stk, h4 with
    | [x], _ => rfl
  | cons x cs ih =>
    intro n i stk c h1 h2 h3 h4 h5 h6 h7
    simp only [List.length_cons] at h1 h2
    obtain ⟨n, rfl⟩ : ∃ m, n = m + 1 := ⟨n - 1, by omega⟩
    have hx := h3 0 (by simp)
    simp only [Nat.add_zero, List.getD_cons_zero] at hx
    have e26 : (y_hp μ ρ c).1 26 i = μ.1 26 i := y_oth μ ρ c i (by decide) (by decide) (by decide) (by decide) (Or.inl (by decide))
    have e27 : (y_hp μ ρ c).1 27 i = μ.1 27 i := y_oth μ ρ c i (by decide) (by decide) (by decide) (by decide) (Or.inl (by decide))
    have h3' : ∀ j, j < cs.length → y_tok (μ.1 26 (i + 1 + j)) (μ.1 27 (i + 1 + j)) (cs.getD j 0) := by
      intro j hj
      have := h3 (j + 1) (by simp; omega)
      rw [show i + 1 + j = i + (j + 1) by omega]
      simpa using this
    have hlen : nI (i + (x :: cs).length) = nI (i + 1 + cs.length) := by
      congr 1; simp; omega
    rw [F_X9_termOf_5, if_neg (by exact nI_ge (by simp) (by simp; omega)), x_gd_t (x_inb_nI (by omega) (by decide)), x_ix_nI (by omega), e26, e27, hlen]
    -- a number or a variable comes on the pile
    have push : ∀ (y : Int32), m_dep cs (stk.length + 1) = some 1 → stk.length < 20 → ∃ p2 : Nat → Int32, F_X9_termOf_58 (F_X9_termOf_5 n) (nI (i + 1 + cs.length)) (nI stk.length) (nI i) y (nI stk.length) (y_hp μ ρ c) = some (if (m_run v cs (y :: stk) false).2 = true then 0 else (m_run v cs (y :: stk) false).1.headD 0, y_hp μ ρ (if (m_run v cs (y :: stk) false).2 = true then 1 else c.1, c.2.1, p2, c.2.2.2)) := by
      intro y hd h20
      rw [F_X9_termOf_58, x_gd_t (x_inb_nI (by omega) (by decide)), x_pt_s, x_ix_nI (by omega), y_put30, F_X9_termOf_159, nI_1, nI_1]
      exact ih n (i + 1) (y :: stk) (c.1, c.2.1, x_u c.2.2.1 stk.length y, c.2.2.2) (by omega) (by omega) h3' (by simpa using hd) (by
        intro j hj
        simp only [List.length_cons] at hj ⊢
        simp only [x_u]
        by_cases e : j = stk.length
        · subst e; simp
        · rw [if_neg e, h5 j (by omega), show stk.length + 1 - 1 - j = (stk.length - 1 - j) + 1 by omega]
          simp) (by simp only [List.length_cons]; omega) h7
    have small : x < 20000 → m_dep cs (stk.length + 1) = some 1 ∧ stk.length < 20 := by
      intro hc
      simp only [m_dep, if_pos hc] at h4
      by_cases q : stk.length < 20
      · rw [if_pos q] at h4; exact ⟨h4, q⟩
      · rw [if_neg q] at h4; cases h4
    rcases hx with ⟨k0, kv, k10⟩ | ⟨k1, j, hj, kj, kc⟩ | hop
    · have hc : x < 20000 := by rw [Int32.lt_iff_toInt_lt] at k10 ⊢; rw [show (10000 : Int32).toInt = 10000 by decide] at k10; rw [show (20000 : Int32).toInt = 20000 by decide]; omega
      obtain ⟨g1, g2⟩ := small hc
      rw [k0, if_neg (by decide), if_pos rfl, x_gd_t (x_inb_nI (by omega) (by decide)), kv]
      simp only [m_run, if_pos hc, if_pos k10]
      exact push x g1 g2
    · have hc : x < 20000 := by rw [kc, y_20k]; exact nI_lt (by omega) (by decide)
      have hc2 : ¬ x < 10000 := by rw [kc, y_10k]; exact nI_nlt (by omega) (by omega)
      obtain ⟨g1, g2⟩ := small hc
      rw [k1, if_neg (by decide), if_neg (by decide), x_gd_t (x_inb_nI (by omega) (by decide)), kj, x_gd_t (x_inb_nI (by omega) (by decide)), x_ix_nI (by omega), y_29, h7 j hj]
      simp only [m_run, if_pos hc, if_neg hc2]
      rw [show x - 10000 = nI j by rw [kc, y_10k, pk_sub (by omega), show 10000 + j - 10000 = j by omega]]
      exact push _ g1 g2
    · have hc : ¬ x < 20000 := by
        rcases hop with ⟨-, e⟩ | ⟨-, e⟩ | ⟨-, e⟩ | ⟨-, e⟩ <;> rw [e] <;> decide
      simp only [m_dep, if_neg hc] at h4
      have h2s : 2 ≤ stk.length := by
        by_cases q : 2 ≤ stk.length
        · exact q
        · rw [if_neg q] at h4; cases h4
      rw [if_pos h2s] at h4
      match stk, h2s with
      | r :: l :: st2, _ =>
        simp only [m_run, if_neg hc]
        simp only [List.length_cons] at h4 h5 h6 ⊢
        have d1 : nI (st2.length + 1 + 1) + (-1) = nI (st2.length + 1) := sb_m1 (by omega)
        have d2 : nI (st2.length + 1) - 1 = nI st2.length := nI_pred _
        have hl : c.2.2.1 st2.length = l := by rw [h5 _ (by omega)]; rw [show st2.length + 1 + 1 - 1 - st2.length = 1 by omega]; rfl
        have hr : c.2.2.1 (st2.length + 1) = r := by rw [h5 _ (by omega)]; rw [show st2.length + 1 + 1 - 1 - (st2.length + 1) = 0 by omega]; rfl
        have fin : ∀ (y : Int32), ∃ p2 : Nat → Int32, F_X9_termOf_158 (F_X9_termOf_5 n) (nI (i + 1 + cs.length)) (nI (st2.length + 1)) (nI i) y (nI (st2.length + 1) - 1) (y_hp μ ρ c) = some (if (m_run v cs (y :: st2) false).2 = true then 0 else (m_run v cs (y :: st2) false).1.headD 0, y_hp μ ρ (if (m_run v cs (y :: st2) false).2 = true then 1 else c.1, c.2.1, p2, c.2.2.2)) := by
          intro y
          rw [d2, F_X9_termOf_158, x_gd_t (x_inb_nI (by omega) (by decide)), x_pt_s, x_ix_nI (by omega), y_put30, F_X9_termOf_159, nI_1]
          exact ih n (i + 1) (y :: st2) (c.1, c.2.1, x_u c.2.2.1 st2.length y, c.2.2.2) (by omega) (by omega) h3' (by simpa using h4) (by
            intro j hj
            simp only [List.length_cons] at hj ⊢
            simp only [x_u]
            by_cases e : j = st2.length
            · subst e; simp
            · rw [if_neg e, h5 j (by omega), show st2.length + 1 - 1 - j = (st2.length - 1 - j) + 1 by omega, show st2.length + 1 + 1 - 1 - j = (st2.length - 1 - j) + 1 + 1 by omega]
              simp) (by simp only [List.length_cons]; omega) h7
        rw [d1]
        rcases hop with ⟨ek, ec⟩ | ⟨ek, ec⟩ | ⟨ek, ec⟩ | ⟨ek, ec⟩
        · rw [ek, if_pos (by decide), d2, x_gd_t (x_inb_nI (by omega) (by decide)), x_gd_t (x_inb_nI (by omega) (by decide)), x_ix_nI (by omega), x_ix_nI (by omega), y_30, hl, hr, if_neg (by decide), F_X9_termOf_104, if_pos rfl, ec]
          have := fin (l + r)
          rw [d2] at this ⊢
          exact this
        · rw [ek, if_pos (by decide), d2, x_gd_t (x_inb_nI (by omega) (by decide)), x_gd_t (x_inb_nI (by omega) (by decide)), x_ix_nI (by omega), x_ix_nI (by omega), y_30, hl, hr, if_neg (by decide), F_X9_termOf_104, if_neg (by decide), if_pos rfl, ec]
          have := fin (l - r)
          rw [d2] at this ⊢
          exact this
        · rw [ek, if_pos (by decide), d2, x_gd_t (x_inb_nI (by omega) (by decide)), x_gd_t (x_inb_nI (by omega) (by decide)), x_ix_nI (by omega), x_ix_nI (by omega), y_30, hl, hr, if_neg (by decide), F_X9_termOf_104, if_neg (by decide), if_neg (by decide), if_pos rfl, ec]
          have := fin (l * r)
          rw [d2] at this ⊢
          exact this
        · rw [ek, if_pos (by decide), d2, x_gd_t (x_inb_nI (by omega) (by decide)), x_gd_t (x_inb_nI (by omega) (by decide)), x_ix_nI (by omega), x_ix_nI (by omega), y_30, hl, hr, if_pos rfl, ec]
          by_cases hz : r = 0
          · rw [if_pos hz, x_pt_s, y_putb]
            have e1 : (m_run v cs ((m_join (20047 - 20000) l r).1 :: st2) (false || (m_join (20047 - 20000) l r).2)).2 = true := by
              have : (m_join (20047 - 20000) l r).2 = true := by rw [hz]; rfl
              rw [this]; exact m_run_t v cs _
            refine ⟨c.2.2.1, ?_⟩
            rw [e1]; rfl
          · have ej : m_join (20047 - 20000) l r = (l / r, false) := by
              show (if r = 0 then ((0 : Int32), true) else (l / r, false)) = _
              rw [if_neg hz]
            rw [if_neg hz, F_X9_termOf_104, if_neg (by decide), if_neg (by decide), if_neg (by decide), x_gd_t (by simpa using hz), ej]
            have := fin (l / r)
            rw [d2] at this ⊢
            exact this
