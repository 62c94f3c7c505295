/-! THE ROW OF A STATE -/
def y_col (c : Nat) : Nat := if c = 5 then 6 else c
def y_lo (v : x_V) : List Int32 := [v 0, v 1, v 2, v 3, v 9, v 4, v 12, v 13, v 14, v 8, v 10, v 11, v 15, m_all v 1, m_all v 2, m_all v 4, v 17, v 18, v 19, 0]
def y_rv (v : x_V) (k : Nat) : Int32 := if k < 20 then (y_lo v).getD k 0 else if k < 56 then v (20 + 7 * ((k - 20) % 6) + y_col ((k - 20) / 6)) else 0
theorem y_hp_congr (μ : x_Hp) {ρ τ : Nat → Int32} (c : y_Sc) (h : ∀ k, k < 60 → ρ k = τ k) : y_hp μ ρ c = y_hp μ τ c := by
  refine x_ext (fun a b => ?_) rfl
  simp only [y_hp]
  by_cases ha : a = 32
  · by_cases hb : b < 60
    · simp [ha, hb, h b hb]
    · simp [ha, hb]
  · simp [ha]
theorem m_tal_nI (v : x_V) {a w : Nat} (ha : a < 6) (hw : w < 7) : m_tal v (nI a) (nI w) = v (20 + (7 * a + w)) := by
  rw [m_tal, show nI a * 7 + nI w = nI (7 * a + w) by rw [show nI a * (7 : Int32) = nI (a * 7) from pk_mul a 7, nI_add]; congr 1; omega, if_pos (x_inb_nI (by omega) (by decide)), x_ix_nI (by omega)]
theorem m_all_nI (v : x_V) {w : Nat} (hw : w < 7) : m_all v (nI w) = v (20 + w) + v (27 + w) + v (34 + w) + v (41 + w) + v (48 + w) + v (55 + w) := by
  have h := fun a (ha : a < 6) => m_tal_nI v ha hw
  rw [m_all, show (0 : Int32) = nI 0 from rfl, show (1 : Int32) = nI 1 from rfl, show (2 : Int32) = nI 2 from rfl, show (3 : Int32) = nI 3 from rfl, show (4 : Int32) = nI 4 from rfl, show (5 : Int32) = nI 5 from rfl, h 0 (by decide), h 1 (by decide), h 2 (by decide), h 3 (by decide), h 4 (by decide), h 5 (by decide)]
  rw [show nI 0 = 0 from rfl, Int32.zero_add, show 20 + (7 * 0 + w) = 20 + w by omega, show 20 + (7 * 1 + w) = 27 + w by omega, show 20 + (7 * 2 + w) = 34 + w by omega, show 20 + (7 * 3 + w) = 41 + w by omega, show 20 + (7 * 4 + w) = 48 + w by omega, show 20 + (7 * 5 + w) = 55 + w by omega]
theorem m_all_u (v : x_V) {j : Nat} (hj : j < 20) (x : Int32) {w : Nat} (hw : w < 7) : m_all (x_u v j x) (nI w) = m_all v (nI w) := by
  rw [m_all_nI _ hw, m_all_nI _ hw]
  simp only [x_u]
  rw [if_neg (by omega), if_neg (by omega), if_neg (by omega), if_neg (by omega), if_neg (by omega), if_neg (by omega)]
theorem m_tm_nI (v : x_V) {w q : Nat} (hw : v 9 = nI w) (h6 : w < 6) (hq : q < 7) (x : Int32) : m_tm v (nI q) x = x_u v (20 + (7 * w + q)) (v (20 + (7 * w + q)) + x) := by
  rw [m_tm, hw, show nI w * 7 + nI q = nI (7 * w + q) by rw [show nI w * (7 : Int32) = nI (w * 7) from pk_mul w 7, nI_add]; congr 1; omega, if_pos (x_inb_nI (by omega) (by decide)), x_ix_nI (by omega)]
theorem m_all_tal (v : x_V) {w q : Nat} (h6 : w < 6) (hq : q < 7) (x : Int32) {p : Nat} (hp : p < 7) : m_all (x_u v (20 + (7 * w + q)) (v (20 + (7 * w + q)) + x)) (nI p) = if p = q then m_all v (nI p) + x else m_all v (nI p) := by
  rw [m_all_nI _ hp, m_all_nI _ hp]
  by_cases e : p = q
  · subst e
    rw [if_pos rfl]
    simp only [x_u]
    have hc : w = 0 ∨ w = 1 ∨ w = 2 ∨ w = 3 ∨ w = 4 ∨ w = 5 := by omega
    rcases hc with rfl | rfl | rfl | rfl | rfl | rfl
    · rw [if_pos (by omega), if_neg (by omega), if_neg (by omega), if_neg (by omega), if_neg (by omega), if_neg (by omega), show 20 + (7 * 0 + p) = 20 + p by omega]; ac_rfl
    · rw [if_neg (by omega), if_pos (by omega), if_neg (by omega), if_neg (by omega), if_neg (by omega), if_neg (by omega), show 20 + (7 * 1 + p) = 27 + p by omega]; ac_rfl
    · rw [if_neg (by omega), if_neg (by omega), if_pos (by omega), if_neg (by omega), if_neg (by omega), if_neg (by omega), show 20 + (7 * 2 + p) = 34 + p by omega]; ac_rfl
    · rw [if_neg (by omega), if_neg (by omega), if_neg (by omega), if_pos (by omega), if_neg (by omega), if_neg (by omega), show 20 + (7 * 3 + p) = 41 + p by omega]; ac_rfl
    · rw [if_neg (by omega), if_neg (by omega), if_neg (by omega), if_neg (by omega), if_pos (by omega), if_neg (by omega), show 20 + (7 * 4 + p) = 48 + p by omega]; ac_rfl
    · rw [if_neg (by omega), if_neg (by omega), if_neg (by omega), if_neg (by omega), if_neg (by omega), if_pos (by omega), show 20 + (7 * 5 + p) = 55 + p by omega]; ac_rfl
  · rw [if_neg e]
    simp only [x_u]
    rw [if_neg (by omega), if_neg (by omega), if_neg (by omega), if_neg (by omega), if_neg (by omega), if_neg (by omega)]
/-- which place of the row a number of the state has -/
def y_pos (j : Nat) : Nat := [0, 1, 2, 3, 5, 99, 99, 99, 9, 4, 10, 11, 6, 7, 8, 12, 99, 16, 17, 18].getD j 99
theorem y_pos_ok : ∀ j, j < 20 → y_pos j < 20 ∨ y_pos j = 99 := by decide
theorem y_rv_u (v : x_V) {j : Nat} (hj : j < 20) (x : Int32) (k : Nat) (hk : k < 60) : y_rv (x_u v j x) k = x_u (y_rv v) (y_pos j) x k := by
  have b1 : m_all (x_u v j x) 1 = m_all v 1 := m_all_u v hj x (w := 1) (by decide)
  have b2 : m_all (x_u v j x) 2 = m_all v 2 := m_all_u v hj x (w := 2) (by decide)
  have b4 : m_all (x_u v j x) 4 = m_all v 4 := m_all_u v hj x (w := 4) (by decide)
  by_cases h20 : 20 ≤ k
  · have e1 : k ≠ y_pos j := by
      have := y_pos_ok j hj
      omega
    have n20 : ¬ k < 20 := by omega
    rw [x_un _ _ e1]
    simp only [y_rv]
    rw [if_neg n20, if_neg n20]
    split
    · rw [x_un _ _ (by omega)]
    · rfl
  · have hd : j = 0 ∨ j = 1 ∨ j = 2 ∨ j = 3 ∨ j = 4 ∨ j = 5 ∨ j = 6 ∨ j = 7 ∨ j = 8 ∨ j = 9 ∨ j = 10 ∨ j = 11 ∨ j = 12 ∨ j = 13 ∨ j = 14 ∨ j = 15 ∨ j = 16 ∨ j = 17 ∨ j = 18 ∨ j = 19 := by omega
    have hc : k = 0 ∨ k = 1 ∨ k = 2 ∨ k = 3 ∨ k = 4 ∨ k = 5 ∨ k = 6 ∨ k = 7 ∨ k = 8 ∨ k = 9 ∨ k = 10 ∨ k = 11 ∨ k = 12 ∨ k = 13 ∨ k = 14 ∨ k = 15 ∨ k = 16 ∨ k = 17 ∨ k = 18 ∨ k = 19 := by omega
    have k20 : k < 20 := by omega
    show y_rv (x_u v j x) k = if k = y_pos j then x else y_rv v k
    rw [y_rv, if_pos k20, y_lo, b1, b2, b4, y_rv, if_pos k20, y_lo]
    rcases hc with rfl | rfl | rfl | rfl | rfl | rfl | rfl | rfl | rfl | rfl | rfl | rfl | rfl | rfl | rfl | rfl | rfl | rfl | rfl | rfl <;> (rcases hd with rfl | rfl | rfl | rfl | rfl | rfl | rfl | rfl | rfl | rfl | rfl | rfl | rfl | rfl | rfl | rfl | rfl | rfl | rfl | rfl <;> rfl)
/-- a tally of her who has it grows: its place in the row, and the sum that goes with it -/
def y_tp (w q : Nat) : Nat := 20 + 6 * (if q = 6 then 5 else q) + w
def y_tu (ρ : Nat → Int32) (w q : Nat) (x : Int32) : Nat → Int32 :=
  x_u (if q = 1 then x_u ρ 13 (ρ 13 + x) else if q = 2 then x_u ρ 14 (ρ 14 + x) else if q = 4 then x_u ρ 15 (ρ 15 + x) else ρ) (y_tp w q) (ρ (y_tp w q) + x)
theorem y_rv_t (v : x_V) {w q : Nat} (hw : v 9 = nI w) (h6 : w < 6) (hq : q < 7) (hq5 : q ≠ 5) (x : Int32) (k : Nat) (hk : k < 60) : y_rv (m_tm v (nI q) x) k = y_tu (y_rv v) w q x k := by
  rw [m_tm_nI v hw h6 hq]
  have a1 := m_all_tal v h6 hq x (p := 1) (by decide)
  have a2 := m_all_tal v h6 hq x (p := 2) (by decide)
  have a4 := m_all_tal v h6 hq x (p := 4) (by decide)
  have b1 : m_all (x_u v (20 + (7 * w + q)) (v (20 + (7 * w + q)) + x)) 1 = if 1 = q then m_all v 1 + x else m_all v 1 := a1
  have b2 : m_all (x_u v (20 + (7 * w + q)) (v (20 + (7 * w + q)) + x)) 2 = if 2 = q then m_all v 2 + x else m_all v 2 := a2
  have b4 : m_all (x_u v (20 + (7 * w + q)) (v (20 + (7 * w + q)) + x)) 4 = if 4 = q then m_all v 4 + x else m_all v 4 := a4
  have lo : ∀ i, i < 20 → x_u v (20 + (7 * w + q)) (v (20 + (7 * w + q)) + x) i = v i := fun i hi => x_un _ _ (by omega)
  by_cases h20 : 20 ≤ k
  · rw [y_tu]
    have hcol : (y_rv v) (y_tp w q) = v (20 + (7 * w + q)) := by
      have hlt : y_tp w q < 56 ∧ 20 ≤ y_tp w q := by rw [y_tp]; split <;> omega
      rw [y_rv, if_neg (by omega), if_pos hlt.1]
      congr 1
      rw [y_tp, y_col]
      by_cases e6 : q = 6
      · subst e6; rw [if_pos rfl, if_pos (by omega)]; omega
      · rw [if_neg e6, if_neg (by omega)]; omega
    have inner : ∀ (j : Nat), 20 ≤ j → (if q = 1 then x_u (y_rv v) 13 (y_rv v 13 + x) else if q = 2 then x_u (y_rv v) 14 (y_rv v 14 + x) else if q = 4 then x_u (y_rv v) 15 (y_rv v 15 + x) else y_rv v) j = y_rv v j := by
      intro j hj
      repeat' split
      all_goals first | rfl | rw [x_un _ _ (by omega)]
    by_cases e : k = y_tp w q
    · rw [e, x_ub, hcol]
      have hlt : y_tp w q < 56 ∧ 20 ≤ y_tp w q := by rw [y_tp]; split <;> omega
      rw [y_rv, if_neg (by omega), if_pos hlt.1]
      have : 20 + 7 * ((y_tp w q - 20) % 6) + y_col ((y_tp w q - 20) / 6) = 20 + (7 * w + q) := by
        rw [y_tp, y_col]
        by_cases e6 : q = 6
        · subst e6; rw [if_pos rfl, if_pos (by omega)]; omega
        · rw [if_neg e6, if_neg (by omega)]; omega
      rw [this, x_ub]
    · rw [x_un _ _ e, inner k h20]
      have n20 : ¬ k < 20 := by omega
      simp only [y_rv]
      rw [if_neg n20, if_neg n20]
      by_cases h56 : k < 56
      · rw [if_pos h56, if_pos h56]
        refine x_un _ _ (fun z => e ?_)
        rw [y_col] at z
        rw [y_tp]
        by_cases e5 : (k - 20) / 6 = 5
        · rw [if_pos e5] at z
          have : q = 6 ∧ w = (k - 20) % 6 := by omega
          rw [if_pos this.1]; omega
        · rw [if_neg e5] at z
          have h5 : (k - 20) / 6 < 6 := by omega
          have : q = (k - 20) / 6 ∧ w = (k - 20) % 6 := by omega
          rw [if_neg (by omega)]; omega
      · rw [if_neg h56, if_neg h56]
  · have hc : k = 0 ∨ k = 1 ∨ k = 2 ∨ k = 3 ∨ k = 4 ∨ k = 5 ∨ k = 6 ∨ k = 7 ∨ k = 8 ∨ k = 9 ∨ k = 10 ∨ k = 11 ∨ k = 12 ∨ k = 13 ∨ k = 14 ∨ k = 15 ∨ k = 16 ∨ k = 17 ∨ k = 18 ∨ k = 19 := by omega
    have ne : k ≠ y_tp w q := by rw [y_tp]; omega
    have hd : q = 0 ∨ q = 1 ∨ q = 2 ∨ q = 3 ∨ q = 4 ∨ q = 6 := by omega
    have k20 : k < 20 := by omega
    rw [y_tu, x_un _ _ ne, y_rv, if_pos k20, y_lo, b1, b2, b4, lo 0 (by decide), lo 1 (by decide), lo 2 (by decide), lo 3 (by decide), lo 9 (by decide), lo 4 (by decide), lo 12 (by decide), lo 13 (by decide), lo 14 (by decide), lo 8 (by decide), lo 10 (by decide), lo 11 (by decide), lo 15 (by decide), lo 17 (by decide), lo 18 (by decide), lo 19 (by decide)]
    have r13 : y_rv v 13 = m_all v 1 := by rw [y_rv, if_pos (by decide), y_lo]; rfl
    have r14 : y_rv v 14 = m_all v 2 := by rw [y_rv, if_pos (by decide), y_lo]; rfl
    have r15 : y_rv v 15 = m_all v 4 := by rw [y_rv, if_pos (by decide), y_lo]; rfl
    have rk : y_rv v k = (y_lo v).getD k 0 := by rw [y_rv, if_pos k20]
    rw [r13, r14, r15]
    rw [y_lo] at rk
    generalize m_all v 1 = A1 at rk ⊢
    generalize m_all v 2 = A2 at rk ⊢
    generalize m_all v 4 = A4 at rk ⊢
    generalize y_rv v = ρ at rk ⊢
    by_cases q1 : q = 1
    · subst q1
      show _ = if k = 13 then A1 + x else ρ k
      rw [rk]
      rcases hc with rfl | rfl | rfl | rfl | rfl | rfl | rfl | rfl | rfl | rfl | rfl | rfl | rfl | rfl | rfl | rfl | rfl | rfl | rfl | rfl <;> rfl
    · rw [if_neg q1, if_neg (Ne.symm q1)]
      by_cases q2 : q = 2
      · subst q2
        show _ = if k = 14 then A2 + x else ρ k
        rw [rk]
        rcases hc with rfl | rfl | rfl | rfl | rfl | rfl | rfl | rfl | rfl | rfl | rfl | rfl | rfl | rfl | rfl | rfl | rfl | rfl | rfl | rfl <;> rfl
      · rw [if_neg q2, if_neg (Ne.symm q2)]
        by_cases q4 : q = 4
        · subst q4
          show _ = if k = 15 then A4 + x else ρ k
          rw [rk]
          rcases hc with rfl | rfl | rfl | rfl | rfl | rfl | rfl | rfl | rfl | rfl | rfl | rfl | rfl | rfl | rfl | rfl | rfl | rfl | rfl | rfl <;> rfl
        · rw [if_neg q4, if_neg (Ne.symm q4), rk]
