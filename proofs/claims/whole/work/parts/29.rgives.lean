theorem y_cri (μ : x_Hp) (v : x_V) (c : y_Sc) {a : Nat} (ha : a < 6) : (z_hp μ v c).1 32 (26 + a) = m_tal v (nI a) 1 := by
  have e : m_tal v (nI a) 1 = v (20 + (7 * a + 1)) := m_tal_nI v ha (w := 1) (by decide)
  rw [e, y_rv_at v (by omega), y_rv, if_neg (by omega), if_pos (by omega)]
  congr 1
  rw [y_col, if_neg (by omega)]
  omega
theorem y_lau (μ : x_Hp) (v : x_V) (c : y_Sc) {a : Nat} (ha : a < 6) : (z_hp μ v c).1 32 (32 + a) = m_tal v (nI a) 2 := by
  have e : m_tal v (nI a) 2 = v (20 + (7 * a + 2)) := m_tal_nI v ha (w := 2) (by decide)
  rw [e, y_rv_at v (by omega), y_rv, if_neg (by omega), if_pos (by omega)]
  congr 1
  rw [y_col, if_neg (by omega)]
  omega
def y_wr (μ : x_Hp) (a : Nat) (sl cr la : Int32) : x_Hp := x_pI (x_pI (x_pI (x_pI μ 0 57 sl) 35 a cr) 36 a la) 0 56 (μ.1 0 56 + cr)
section RV
variable {μ : x_Hp} {T : x_TT} {lv N : Nat}
theorem y_gives (hT : y_Tx μ T lv N) (hB : m_TB T N) (h51 : μ.1 0 51 = -1) {v : x_V} (hG : y_G μ T N v) (h13 : v 13 = nI 0) (c : y_Sc) {a m : Nat} (ha : a < N) (hm : m ≤ 20) :
    ∃ c2 : y_Sc, F_X9_gives (nI a) (nI m) (z_hp μ v c) = some ((), z_hp (y_wr μ a (y_sl μ (nI a) (m_kq T (m * 61) (if v 9 = nI a then v else m_over T v (nI a)) (nI m))) (m_tal (m_keep T v (nI a) m) (nI a) 1 - m_tal (if v 9 = nI a then v else m_over T v (nI a)) (nI a) 1) (m_tal (m_keep T v (nI a) m) (nI a) 2 - m_tal (if v 9 = nI a then v else m_over T v (nI a)) (nI a) 2)) (m_keep T v (nI a) m) c2) ∧ m_keep T v (nI a) m 13 = nI 0 := by
  have hN : N ≤ 6 := hT.2.1
  have ix : (26 : Int32) + nI a = nI (26 + a) := nI_add 26 a
  have iy : (32 : Int32) + nI a = nI (32 + a) := nI_add 32 a
  have hx : x_inb (nI (26 + a)) 60 = true := x_inb_nI (by omega) (by decide)
  have hy : x_inb (nI (32 + a)) 60 = true := x_inb_nI (by omega) (by decide)
  have h6 : x_inb (nI a) 6 = true := x_inb_nI (by omega) (by decide)
  have k15 : ∀ (u : x_V) (c : y_Sc), y_G μ T N u → u 13 = nI 0 → ∃ c2 : y_Sc, F_X9_gives_15 (nI a) (nI m) (z_hp μ u c) = some ((), z_hp (y_wr μ a (y_sl μ (nI a) (m_kq T (m * 61) u (nI m))) (m_tal (m_kp T (m * 61) u (nI m)) (nI a) 1 - m_tal u (nI a) 1) (m_tal (m_kp T (m * 61) u (nI m)) (nI a) 2 - m_tal u (nI a) 2)) (m_kp T (m * 61) u (nI m)) c2) ∧ m_kp T (m * 61) u (nI m) 13 = nI 0 := by
    intro u c hGu hu
    rw [F_X9_gives_15, ix, x_gd_t hx, iy, x_gd_t hy, x_ix_nI (by omega), x_ix_nI (by omega), y_cri μ u c (by omega), y_lau μ u c (by omega)]
    obtain ⟨c2, g, k13⟩ := y_keep_loop (T := T) (lv := lv) (N := N) (a := a) (by omega) (m_tal u (nI a) 1) (m_tal u (nI a) 2) (m * 61) x_fuel m 0 μ u c hT hGu hu (by decide) hm (by omega) (by rw [x_fuel]; omega)
    refine ⟨c2, ?_, k13⟩
    rw [g]
    generalize hsl : y_sl μ (nI a) (m_kq T (m * 61) u (nI m)) = sl
    generalize m_kp T (m * 61) u (nI m) = w at k13 ⊢
    rw [F_X9_gives_39, if_neg (show ¬ (0 : Int32) < nI 0 by decide), z_get _ w c2 13 (k := 7) rfl (by decide) (by decide), k13, if_pos (show nI 0 ≤ 0 by decide), ix, x_gd_t hx, x_gd_t h6, x_pt_s, x_ix_nI (by omega), x_ix_nI (by omega), y_cri _ w c2 (by omega), z_putO _ w c2 (by decide) (by decide) (by decide) (by decide) (Or.inl (by decide)), iy, x_gd_t hy, x_gd_t h6, x_pt_s, x_ix_nI (by omega), y_lau _ w c2 (by omega), z_putO _ w c2 (by decide) (by decide) (by decide) (by decide) (Or.inl (by decide)), x_gd_t h6, x_pt_s, z_0 _ w c2 (by decide), z_oth _ w c2 (a := 35) _ (by decide) (by decide) (by decide) (by decide) (Or.inl (by decide)), z_putO _ w c2 (by decide) (by decide) (by decide) (by decide) (Or.inr (by decide))]
    refine congrArg (fun z => some ((), z)) (congrArg (fun z => z_hp z w c2) ?_)
    rw [y_wr]
    have r35 : ∀ x y : Int32, (x_pI (x_pI (x_pI μ 0 57 sl) 35 a x) 36 a y).1 35 a = x := by
      intro x y
      rw [x_pI_1, if_neg (by omega), x_pI_1, if_pos ⟨rfl, rfl⟩]
    have r56 : ∀ x y : Int32, (x_pI (x_pI (x_pI μ 0 57 sl) 35 a x) 36 a y).1 0 56 = μ.1 0 56 := by
      intro x y
      rw [x_pI_1, if_neg (by omega), x_pI_1, if_neg (by omega), x_pI_1, if_neg (by omega)]
    rw [r35, r56]
  rw [F_X9_gives, z_get μ v c 9 (k := 4) rfl (by decide) (by decide), m_keep]
  by_cases h9 : v 9 = nI a
  · simp only [if_pos h9]; exact k15 v c hG h13
  · simp only [if_neg h9]
    rw [y_hands hT hB hG.1 c ha, x_b_s]
    exact k15 _ c (hG.over hT hB h51 ha) (by rw [m_over_k T v _ (by decide)]; exact h13)
end RV
