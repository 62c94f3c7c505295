theorem y_C.u {μ : x_Hp} {T : x_TT} {v : x_V} {w : Nat} (h : y_C μ T v w) {j : Nat} (hj : j ≠ 5 ∧ j ≠ 6 ∧ j ≠ 7 ∧ j ≠ 9 ∧ j ≠ 16) (x : Int32) : y_C μ T (x_u v j x) w := by
  obtain ⟨a, b, c, d, e⟩ := h
  refine ⟨?_, ?_, ?_, ?_, ?_⟩
  · rw [x_un _ _ (by omega)]; exact a
  · rw [x_un _ _ (by omega)]; exact b
  · rw [x_un _ _ (by omega)]; exact c
  · rw [x_un _ _ (by omega)]; exact d
  · rw [x_un _ _ (by omega)]; exact e
theorem y_C.t {μ : x_Hp} {T : x_TT} {v : x_V} {w : Nat} (h : y_C μ T v w) (q x : Int32) : y_C μ T (m_tm v q x) w := by
  obtain ⟨a, b, c, d, e⟩ := h
  refine ⟨?_, ?_, ?_, ?_, ?_⟩
  · rw [m_tm_lt _ _ _ (by decide)]; exact a
  · rw [m_tm_lt _ _ _ (by decide)]; exact b
  · rw [m_tm_lt _ _ _ (by decide)]; exact c
  · rw [m_tm_lt _ _ _ (by decide)]; exact d
  · rw [m_tm_lt _ _ _ (by decide)]; exact e
theorem y_be {α β : Type} {x : Option (α × x_Hp)} {f : α → x_Hp → Option (β × x_Hp)} {a : α} {h : y_Sc → x_Hp} {b : β} {g : y_Sc → x_Hp} (h1 : ∃ c, x = some (a, h c)) (h2 : ∀ c, ∃ c2, f a (h c) = some (b, g c2)) : ∃ c2, x_b x f = some (b, g c2) := by
  obtain ⟨c, e⟩ := h1
  rw [e]
  exact h2 c
section RM
variable {μ : x_Hp} {T : x_TT} {lv N w : Nat}
theorem y_lawK (hT : y_Tx μ T lv N) {v : x_V} (hw : w < N) (hC : y_C μ T v w) (c : y_Sc) {k : Nat} (hk : k < 7) : ∃ c2 : y_Sc, F_X9_lawNow (nI k) (z_hp μ v c) = some (m_tells T k v, z_hp μ v c2) ∧ c2.2.2.2 = c.2.2.2 := by
  have h := fun k (hk : k < 7) => y_tells hT hw hC c hk
  have hc : k = 0 ∨ k = 1 ∨ k = 2 ∨ k = 3 ∨ k = 4 ∨ k = 5 ∨ k = 6 := by omega
  rcases hc with rfl | rfl | rfl | rfl | rfl | rfl | rfl
  · obtain ⟨c2, g, gk⟩ := h 0 hk
    have g' : F_X9_tells (nI 0) 1 (-9) 9 (z_hp μ v c) = some (m_tells T 0 v, z_hp μ v c2) := g
    rw [F_X9_lawNow, if_neg (by decide), if_neg (by decide), F_X9_lawNow_17, g', x_b_s]; exact ⟨c2, rfl, gk⟩
  · obtain ⟨c2, g, gk⟩ := h 1 hk
    have g' : F_X9_tells (nI 1) 1 (-9) 9 (z_hp μ v c) = some (m_tells T 1 v, z_hp μ v c2) := g
    rw [F_X9_lawNow, if_neg (by decide), if_neg (by decide), F_X9_lawNow_17, g', x_b_s]; exact ⟨c2, rfl, gk⟩
  · obtain ⟨c2, g, gk⟩ := h 2 hk
    have g' : F_X9_tells (nI 2) 0 (-9) 9 (z_hp μ v c) = some (m_tells T 2 v, z_hp μ v c2) := g
    rw [F_X9_lawNow, if_neg (by decide), if_pos (by decide), F_X9_lawNow_17, g', x_b_s]; exact ⟨c2, rfl, gk⟩
  · obtain ⟨c2, g, gk⟩ := h 3 hk
    have g' : F_X9_tells (nI 3) 0 (-9) 9 (z_hp μ v c) = some (m_tells T 3 v, z_hp μ v c2) := g
    rw [F_X9_lawNow, if_neg (by decide), if_pos (by decide), F_X9_lawNow_17, g', x_b_s]; exact ⟨c2, rfl, gk⟩
  · obtain ⟨c2, g, gk⟩ := h 4 hk
    have g' : F_X9_tells 4 0 0 99 (z_hp μ v c) = some (m_tells T 4 v, z_hp μ v c2) := g
    rw [F_X9_lawNow, if_pos (by decide), if_pos (by decide), g', x_b_s]; exact ⟨c2, rfl, gk⟩
  · obtain ⟨c2, g, gk⟩ := h 5 hk
    have g' : F_X9_tells 5 0 0 1 (z_hp μ v c) = some (m_tells T 5 v, z_hp μ v c2) := g
    rw [F_X9_lawNow, if_pos (by decide), if_neg (by decide), if_pos (by decide), g', x_b_s]; exact ⟨c2, rfl, gk⟩
  · obtain ⟨c2, g, gk⟩ := h 6 hk
    have g' : F_X9_tells 6 0 0 100 (z_hp μ v c) = some (m_tells T 6 v, z_hp μ v c2) := g
    rw [F_X9_lawNow, if_pos (by decide), if_neg (by decide), if_neg (by decide), g', x_b_s]; exact ⟨c2, rfl, gk⟩
theorem y_law (hT : y_Tx μ T lv N) {v : x_V} (hw : w < N) (hC : y_C μ T v w) (c : y_Sc) {k : Nat} (hk : k < 7) : ∃ c2 : y_Sc, F_X9_lawNow (nI k) (z_hp μ v c) = some (m_tells T k v, z_hp μ v c2) := by
  obtain ⟨c2, g, -⟩ := y_lawK hT hw hC c hk
  exact ⟨c2, g⟩
theorem y_lot {v : x_V} (hC : y_C μ T v w) (c : y_Sc) : F_X9_lotNow (z_hp μ v c) = some (m_lot (v 16) (v 15), z_hp μ v c) := by
  rw [F_X9_lotNow, z_0 μ v c (by decide), hC.2.2.2.2, F_X9_mixed, x_b_s, F_X9_mixed, x_b_s, z_get μ v c 15 (k := 12) rfl (by decide) (by decide)]
  rfl
theorem y_fall (v : x_V) (c : y_Sc) : F_X9_fallsAsleep (z_hp μ v c) = some ((), z_hp μ (m_fall v) c) := by
  rw [F_X9_fallsAsleep, x_pt_s, x_pt_s, z_put μ v c 13 (k := 7) rfl (by decide) (by decide), z_get μ _ c 17 (k := 16) rfl (by decide) (by decide), z_put μ _ c 17 (k := 16) rfl (by decide) (by decide), m_fall, x_un _ _ (by decide)]
theorem y_rv_at (v : x_V) {k : Nat} (h : k < 60) (c : y_Sc) : (z_hp μ v c).1 32 k = y_rv v k := y_row _ _ _ h
theorem m_w3_row (v : x_V) (hv : v 9 = nI w) (h6 : w < 6) (k : Nat) (hk : k < 60) : x_u (x_u (x_u (y_rv v) 13 (y_rv v 13 + v 12)) (20 + w) (y_rv v (20 + w) + 1)) (26 + w) (y_rv v (26 + w) + v 12) k = y_rv (m_w3 v) k := by
  have e1 := fun j hj => y_rv_t v hv h6 (q := 0) (by decide) (by decide) 1 j hj
  have hv2 : m_tm v (nI 0) 1 9 = nI w := by rw [m_tm_lt _ _ _ (by decide)]; exact hv
  have e2 := y_rv_t (m_tm v (nI 0) 1) hv2 h6 (q := 1) (by decide) (by decide) (v 12) k hk
  have ew : m_w3 v = m_tm (m_tm v (nI 0) 1) (nI 1) (v 12) := by
    show m_tm (m_tm v 0 1) 1 ((m_tm v 0 1) 12) = m_tm (m_tm v 0 1) 1 (v 12)
    rw [m_tm_lt v 0 1 (show 12 < 20 by decide)]
  rw [ew, e2]
  have f0 : y_tp w 0 = 20 + w := by show 20 + 6 * 0 + w = 20 + w; omega
  have f1 : y_tp w 1 = 26 + w := by show 20 + 6 * 1 + w = 26 + w; omega
  have t0 : ∀ j, j < 60 → y_rv (m_tm v (nI 0) 1) j = if j = 20 + w then y_rv v (20 + w) + 1 else y_rv v j := by
    intro j hj
    rw [e1 j hj, y_tu, f0]
    rfl
  rw [y_tu, f1, if_pos rfl]
  simp only [x_u]
  rw [t0 13 (by decide), t0 (26 + w) (by omega), if_neg (show ¬ 13 = 20 + w by omega), if_neg (show ¬ 26 + w = 20 + w by omega)]
  by_cases k26 : k = 26 + w
  · rw [if_pos k26, if_pos k26]
  · rw [if_neg k26, if_neg k26]
    by_cases k20 : k = 20 + w
    · rw [if_pos k20, if_neg (show ¬ k = 13 by omega), t0 k hk, if_pos k20]
    · rw [if_neg k20]
      by_cases k13 : k = 13
      · rw [if_pos k13, if_pos k13]
      · rw [if_neg k13, if_neg k13, t0 k hk, if_neg k20]
theorem y_tal_row (v : x_V) (hv : v 9 = nI w) (h6 : w < 6) {q s p : Nat} (hq : (q = 2 ∧ s = 14 ∧ p = 32) ∨ (q = 4 ∧ s = 15 ∧ p = 44)) (x : Int32) (k : Nat) (hk : k < 60) : x_u (x_u (y_rv v) s (y_rv v s + x)) (p + w) (y_rv v (p + w) + x) k = y_rv (m_tm v (nI q) x) k := by
  rw [y_rv_t v hv h6 (by omega) (by omega) x k hk, y_tu]
  rcases hq with ⟨rfl, rfl, rfl⟩ | ⟨rfl, rfl, rfl⟩
  · have f : y_tp w 2 = 32 + w := by show 20 + 6 * 2 + w = 32 + w; omega
    rw [f]; rfl
  · have f : y_tp w 4 = 44 + w := by show 20 + 6 * 4 + w = 44 + w; omega
    rw [f]; rfl
theorem y_tal_row1 (v : x_V) (hv : v 9 = nI w) (h6 : w < 6) {q p : Nat} (hq : (q = 3 ∧ p = 38) ∨ (q = 6 ∧ p = 50)) (x : Int32) (k : Nat) (hk : k < 60) : x_u (y_rv v) (p + w) (y_rv v (p + w) + x) k = y_rv (m_tm v (nI q) x) k := by
  rw [y_rv_t v hv h6 (by omega) (by omega) x k hk, y_tu]
  rcases hq with ⟨rfl, rfl⟩ | ⟨rfl, rfl⟩
  · have f : y_tp w 3 = 38 + w := by show 20 + 6 * 3 + w = 38 + w; omega
    rw [f]; rfl
  · have f : y_tp w 6 = 50 + w := by show 20 + 6 * 5 + w = 50 + w; omega
    rw [f]; rfl
theorem y_w6 (hT : y_Tx μ T lv N) {v : x_V} (hw : w < N) (hC : y_C μ T v w) (c : y_Sc) : ∃ c2, F_X9_wakeMinute_262 (z_hp μ v c) = some ((), z_hp μ (m_w6 T v) c2) := by
  rw [F_X9_wakeMinute_262]
  refine y_be (h := fun c => z_hp μ v c) (g := fun c => z_hp μ (m_w6 T v) c) (y_law hT hw hC c (k := 5) (by decide)) (fun c => ?_)
  simp only [m_w6]
  by_cases h : m_tells T 5 v ≤ 0
  · rw [if_pos h, if_pos h]; exact ⟨c, rfl⟩
  · rw [if_neg h, if_neg h, y_fall, x_b_s]; exact ⟨c, rfl⟩
theorem y_w5 (hT : y_Tx μ T lv N) {v : x_V} (hw : w < N) (hC : y_C μ T v w) (c : y_Sc) : ∃ c2, F_X9_wakeMinute_169 (nI w) (z_hp μ v c) = some ((), z_hp μ (m_w6 T (m_w5 T v)) c2) := by
  have hN : N ≤ 6 := hT.2.1
  have h6 : w < 6 := by omega
  rw [F_X9_wakeMinute_169, y_lot hC, x_b_s]
  refine y_be (h := fun c => z_hp μ v c) (g := fun c => z_hp μ (m_w6 T (m_w5 T v)) c) (y_law hT hw hC c (k := 6) (by decide)) (fun c => ?_)
  simp only [m_w5]
  by_cases h : m_tells T 6 v ≤ m_lot (v 16) (v 15)
  · rw [if_pos h, if_pos h]; exact y_w6 hT hw hC c
  · rw [if_neg h, if_neg h]
    have ix : (50 : Int32) + nI w = nI (50 + w) := nI_add 50 w
    have ix4 : (44 : Int32) + nI w = nI (44 + w) := nI_add 44 w
    have hi : x_inb (nI (50 + w)) 60 = true := x_inb_nI (by omega) (by decide)
    have hi4 : x_inb (nI (44 + w)) 60 = true := x_inb_nI (by omega) (by decide)
    have hC3 := hC.u (j := 3) (by decide) 0
    have e1 : x_pI (z_hp μ (x_u v 3 0) c) 32 (50 + w) ((z_hp μ (x_u v 3 0) c).1 32 (50 + w) + 1) = z_hp μ (m_sp1 v) c := by
      rw [y_rv_at _ (by omega), z_hp, y_put _ _ _ (by omega), z_hp]
      exact y_hp_congr μ c (fun k hk => y_tal_row1 (x_u v 3 0) hC3.1 h6 (q := 6) (p := 50) (Or.inr ⟨rfl, rfl⟩) 1 k hk)
    rw [x_pt_s, z_put μ v c 3 (k := 3) rfl (by decide) (by decide), ix, x_gd_t hi, x_gd_t hi, x_pt_s, x_ix_nI (by omega), e1, z_get μ _ c 14 (k := 8) rfl (by decide) (by decide), m_spit]
    have hC6 : y_C μ T (m_sp1 v) w := hC3.t 6 1
    by_cases h14 : m_sp1 v 14 = 0
    · rw [if_pos h14, if_pos h14]
      obtain ⟨hlv, -, h18, -, -, hA, -⟩ := id hT
      have ia : (6 : Int32) * nI lv + nI w = nI (6 * lv + w) := by rw [show (6 : Int32) * nI lv = nI (6 * lv) from pk_mul 6 lv, nI_add]
      have i12 : x_inb (nI (6 * lv + w)) 12 = true := x_inb_nI (by omega) (by decide)
      have hs : (if x_inb (m_sp1 v 9) 6 = true then T.1 6 (x_ix (m_sp1 v 9)) else 0) = T.1 6 w := by
        rw [hC6.1, if_pos (x_inb_nI h6 (by decide)), x_ix_nI (by omega)]
      have e2 : x_pI (z_hp μ (m_sp1 v) c) 32 15 ((z_hp μ (m_sp1 v) c).1 32 15 + T.1 6 w) = y_hp μ (x_u (y_rv (m_sp1 v)) 15 (y_rv (m_sp1 v) 15 + T.1 6 w)) c := by
        rw [y_rv_at _ (by decide), z_hp, y_put _ _ _ (by decide)]
      rw [z_0 μ _ c (by decide), h18, ia, x_gd_t i12, x_pt_s, x_ix_nI (by omega), z_lo μ _ c (a := 14) _ (by decide) (by decide), (hA w hw).2.2.2.1, e2, ix4, x_gd_t hi4]
      have o18 : ∀ ρ, (y_hp μ ρ c).1 0 18 = nI lv := fun ρ => by rw [y_oth μ ρ c 18 (by decide) (by decide) (by decide) (by decide) (Or.inr (by decide))]; exact h18
      have o14 : ∀ ρ, (y_hp μ ρ c).1 14 (6 * lv + w) = T.1 6 w := fun ρ => by rw [y_oth μ ρ c _ (by decide) (by decide) (by decide) (by decide) (Or.inl (by decide))]; exact (hA w hw).2.2.2.1
      rw [o18, ia, x_gd_t i12, x_gd_t hi4, x_pt_s, x_ix_nI (by omega), x_ix_nI (by omega), o14, y_row _ _ _ (by omega), y_put _ _ _ (by omega), x_un _ _ (show 44 + w ≠ 15 by omega), hs]
      have e3 : y_hp μ (x_u (x_u (y_rv (m_sp1 v)) 15 (y_rv (m_sp1 v) 15 + T.1 6 w)) (44 + w) (y_rv (m_sp1 v) (44 + w) + T.1 6 w)) c = z_hp μ (m_tm (m_sp1 v) 4 (T.1 6 w)) c :=
        y_hp_congr μ c (fun k hk => y_tal_row (m_sp1 v) hC6.1 h6 (q := 4) (s := 15) (p := 44) (Or.inr ⟨rfl, rfl, rfl⟩) (T.1 6 w) k hk)
      rw [e3]
      exact y_w6 hT hw (hC6.t 4 _) c
    · rw [if_neg h14, if_neg h14]
      exact y_w6 hT hw hC6 c
theorem m_w1_f (T : x_TT) (v : x_V) : (fun j => if 0 ≤ j ∧ j < 4 then x_wi (v j + m_tells T j v) 0 99 else v j) = m_w1 T v := by
  funext j
  rw [m_w1]
  by_cases h3 : j = 3
  · rw [h3, x_ub, if_pos ⟨by omega, by omega⟩]
  · by_cases h2 : j = 2
    · rw [h2, x_un _ _ (by decide), x_ub, if_pos ⟨by omega, by omega⟩]
    · by_cases h1 : j = 1
      · rw [h1, x_un _ _ (by decide), x_un _ _ (by decide), x_ub, if_pos ⟨by omega, by omega⟩]
      · by_cases h0 : j = 0
        · rw [h0, x_un _ _ (by decide), x_un _ _ (by decide), x_un _ _ (by decide), x_ub, if_pos ⟨by omega, by omega⟩]
        · rw [x_un _ _ h3, x_un _ _ h2, x_un _ _ h1, x_un _ _ h0, if_neg (by omega)]
theorem y_awake (hT : y_Tx μ T lv N) {v : x_V} (hw : w < N) (hC : y_C μ T v w) (c : y_Sc) : ∃ c2, F_X9_wakeMinute (z_hp μ v c) = some ((), z_hp μ (m_awake T v) c2) := by
  have hN : N ≤ 6 := hT.2.1
  have h6 : w < 6 := by omega
  have py : ∀ i, i < 4 → y_pos i = i := by decide
  -- the four changes
  have lp : ∀ (d n i : Nat) (c : y_Sc), i + d = 4 → d < n → ∃ c2 : y_Sc, F_X9_wakeMinute_9 n (nI w) (nI i) (z_hp μ v c) = F_X9_wakeMinute_33 x_fuel (nI w) 0 (z_hp μ v c2) ∧ ∀ j, j < 4 → c2.2.2.2 j = if i ≤ j then m_tells T j v else c.2.2.2 j := by
    intro d
    induction d with
    | zero =>
      intro n i c h1 h2
      obtain ⟨n, rfl⟩ : ∃ m, n = m + 1 := ⟨n - 1, by omega⟩
      refine ⟨c, ?_, fun j hj => by rw [if_neg (by omega)]⟩
      have : i = 4 := by omega
      subst this
      rw [F_X9_wakeMinute_9, if_pos (by decide)]
    | succ d ih =>
      intro n i c h1 h2
      obtain ⟨n, rfl⟩ : ∃ m, n = m + 1 := ⟨n - 1, by omega⟩
      obtain ⟨c2, g, gk⟩ := y_lawK hT hw hC c (k := i) (by omega)
      rw [F_X9_wakeMinute_9, show (4 : Int32) = nI 4 from rfl, if_neg (nI_ge (by omega) (by decide)), g, x_b_s, x_gd_t (x_inb_nI (by omega) (by decide)), x_pt_s, x_ix_nI (by omega), z_hp, y_put33, nI_1, ← z_hp]
      obtain ⟨c3, g3, h3⟩ := ih n (i + 1) (c2.1, c2.2.1, c2.2.2.1, x_u c2.2.2.2 i (m_tells T i v)) (by omega) (by omega)
      refine ⟨c3, g3, fun j hj => ?_⟩
      rw [h3 j hj]
      have keep : ∀ j, c2.2.2.2 j = c.2.2.2 j := fun j => by rw [gk]
      simp only [x_u]
      by_cases hj2 : j = i
      · subst hj2; rw [if_neg (by omega), if_pos rfl, if_pos (Nat.le_refl _)]
      · by_cases hj3 : i + 1 ≤ j
        · rw [if_pos hj3, if_pos (by omega)]
        · rw [if_neg hj3, if_neg hj2, if_neg (by omega), keep]
  obtain ⟨c1, g1, ch⟩ := lp 4 x_fuel 0 c (by omega) (by decide)
  have ch' : ∀ j, j < 4 → c1.2.2.2 j = m_tells T j v := fun j hj => by rw [ch j hj, if_pos (Nat.zero_le _)]
  -- they come to the row
  have lp2 : ∀ (d n i : Nat) (u : x_V), i + d = 4 → d < n → F_X9_wakeMinute_33 n (nI w) (nI i) (z_hp μ u c1) = F_X9_wakeMinute_33 (n - d) (nI w) (nI 4) (z_hp μ (fun j => if i ≤ j ∧ j < 4 then x_wi (u j + m_tells T j v) 0 99 else u j) c1) := by
    intro d
    induction d with
    | zero =>
      intro n i u h1 h2
      have : i = 4 := by omega
      subst this
      have e : (fun j => if 4 ≤ j ∧ j < 4 then x_wi (u j + m_tells T j v) 0 99 else u j) = u := by funext j; rw [if_neg (by omega)]
      rw [e]; rfl
    | succ d ih =>
      intro n i u h1 h2
      obtain ⟨n, rfl⟩ : ∃ m, n = m + 1 := ⟨n - 1, by omega⟩
      have o33 : (z_hp μ u c1).1 33 i = m_tells T i v := by rw [z_hp, y_33]; exact ch' i (by omega)
      rw [F_X9_wakeMinute_33, show (4 : Int32) = nI 4 from rfl, if_neg (nI_ge (by omega) (by decide)), x_gd_t (x_inb_nI (by omega) (by decide)), x_gd_t (x_inb_nI (by omega) (by decide)), x_ix_nI (by omega), z_get μ u c1 i (py i (by omega)) (by omega) (by omega), o33, y_held_wi (by decide), x_b_s, x_gd_t (x_inb_nI (by omega) (by decide)), x_pt_s, z_put μ u c1 i (py i (by omega)) (by omega) (by omega), nI_1, ih n (i + 1) _ (by omega) (by omega), show n + 1 - (d + 1) = n - d by omega]
      congr 2
      funext j
      simp only [x_u]
      by_cases hj : j = i
      · subst hj
        rw [if_neg (by omega), if_pos rfl, if_pos (by omega)]
      · by_cases hj2 : i + 1 ≤ j ∧ j < 4
        · rw [if_pos hj2, if_neg hj, if_pos (by omega)]
        · rw [if_neg hj2, if_neg hj, if_neg (by omega)]
  have e1 := m_w1_f T v
  have hC1 : y_C μ T (m_w1 T v) w := (((hC.u (j := 0) (by decide) _).u (j := 1) (by decide) _).u (j := 2) (by decide) _).u (j := 3) (by decide) _
  have hC2 := hC1.u (j := 4) (by decide) (m_w1 T v 4 + 1)
  have hC3 : y_C μ T (m_w2 T (m_w1 T v)) w := hC2.u (j := 12) (by decide) _
  rw [F_X9_wakeMinute, z_get μ v c 9 (k := 4) rfl (by decide) (by decide), hC.1, show (0 : Int32) = nI 0 from rfl, g1, show (0 : Int32) = nI 0 from rfl, lp2 4 x_fuel 0 v (by omega) (by decide), e1, show x_fuel - 4 = 65531 + 1 from rfl, F_X9_wakeMinute_33, if_pos (by decide), x_pt_s, z_get μ _ c1 4 (k := 5) rfl (by decide) (by decide), z_put μ _ c1 4 (k := 5) rfl (by decide) (by decide)]
  refine y_be (h := fun c => z_hp μ _ c) (g := fun c => z_hp μ _ c) (y_law hT hw hC2 c1 (k := 4) (by decide)) (fun c => ?_)
  have e12 : m_w2 T (m_w1 T v) 12 = m_tells T 4 (x_u (m_w1 T v) 4 (m_w1 T v 4 + 1)) := by rw [m_w2, x_ub]
  have ew2 : x_u (x_u (m_w1 T v) 4 (m_w1 T v 4 + 1)) 12 (m_tells T 4 (x_u (m_w1 T v) 4 (m_w1 T v 4 + 1))) = m_w2 T (m_w1 T v) := by rw [m_w2]
  rw [x_pt_s, z_put μ _ c 12 (k := 6) rfl (by decide) (by decide), ew2, ← e12, m_awake]
  generalize m_w2 T (m_w1 T v) = u at hC3 ⊢
  have ix20 : (20 : Int32) + nI w = nI (20 + w) := nI_add 20 w
  have ix26 : (26 : Int32) + nI w = nI (26 + w) := nI_add 26 w
  have ix32 : (32 : Int32) + nI w = nI (32 + w) := nI_add 32 w
  have h20 : x_inb (nI (20 + w)) 60 = true := x_inb_nI (by omega) (by decide)
  have h26 : x_inb (nI (26 + w)) 60 = true := x_inb_nI (by omega) (by decide)
  have h32 : x_inb (nI (32 + w)) 60 = true := x_inb_nI (by omega) (by decide)
  have e3 : y_hp μ (x_u (x_u (x_u (y_rv u) 13 (y_rv u 13 + u 12)) (20 + w) (y_rv u (20 + w) + 1)) (26 + w) (y_rv u (26 + w) + u 12)) c = z_hp μ (m_w3 u) c :=
    y_hp_congr μ c (fun k hk => m_w3_row u hC3.1 h6 k hk)
  rw [x_pt_s, z_hp, y_row _ _ _ (by decide), y_put _ _ _ (by decide), ix20, x_gd_t h20, x_gd_t h20, x_pt_s, x_ix_nI (by omega), y_row _ _ _ (by omega), y_put _ _ _ (by omega), x_un _ _ (show 20 + w ≠ 13 by omega), ix26, x_gd_t h26, x_gd_t h26, x_pt_s, x_ix_nI (by omega), y_row _ _ _ (by omega), y_put _ _ _ (by omega), x_un _ _ (show 26 + w ≠ 20 + w by omega), x_un _ _ (show 26 + w ≠ 13 by omega), e3]
  have hC4 : y_C μ T (m_w3 u) w := (hC3.t 0 1).t 1 _
  have u12 : m_w3 u 12 = u 12 := by rw [m_w3, m_tm_lt _ _ _ (by decide), m_tm_lt _ _ _ (by decide)]
  rw [← u12]
  generalize m_w3 u = u3 at hC4 ⊢
  rw [m_w4]
  by_cases hc : u3 12 = 0
  · rw [if_pos hc, if_pos hc, z_get μ _ c 2 (k := 2) rfl (by decide) (by decide)]
    by_cases h50 : u3 2 < 50
    · rw [if_pos h50, if_pos h50]; exact y_w5 hT hw hC4 c
    · have e4 : y_hp μ (x_u (x_u (y_rv u3) 14 (y_rv u3 14 + 1)) (32 + w) (y_rv u3 (32 + w) + 1)) c = z_hp μ (m_tm u3 2 1) c :=
        y_hp_congr μ c (fun k hk => y_tal_row u3 hC4.1 h6 (q := 2) (s := 14) (p := 32) (Or.inl ⟨rfl, rfl, rfl⟩) 1 k hk)
      rw [if_neg h50, if_neg h50, x_pt_s, z_hp, y_row _ _ _ (by decide), y_put _ _ _ (by decide), ix32, x_gd_t h32, x_gd_t h32, x_pt_s, x_ix_nI (by omega), y_row _ _ _ (by omega), y_put _ _ _ (by omega), x_un _ _ (show 32 + w ≠ 14 by omega), e4]
      exact y_w5 hT hw (hC4.t 2 1) c
  · rw [if_neg hc, if_neg hc]; exact y_w5 hT hw hC4 c
theorem y_asleep (hT : y_Tx μ T lv N) {v : x_V} (hw : w < N) (hC : y_C μ T v w) (hs : ∃ a, 0 < a ∧ a ≤ 60 ∧ v 13 = nI a) (c : y_Sc) : ∃ c2, F_X9_sleepMinute (z_hp μ v c) = some ((), z_hp μ (m_asleep T v) c2) := by
  have hN : N ≤ 6 := hT.2.1
  have h6 : w < 6 := by omega
  rw [F_X9_sleepMinute]
  refine y_be (h := fun c => z_hp μ v c) (g := fun c => z_hp μ _ c) (y_law hT hw hC c (k := 0) (by decide)) (fun c2 => ⟨c2, ?_⟩)
  have hC1 := hC.u (j := 0) (by decide) (x_wi (v 0 + m_tells T 0 v) 0 99)
  have ix : (38 : Int32) + nI w = nI (38 + w) := nI_add 38 w
  have hi : x_inb (nI (38 + w)) 60 = true := x_inb_nI (by omega) (by decide)
  have e1 : y_hp μ (x_u (y_rv (x_u v 0 (x_wi (v 0 + m_tells T 0 v) 0 99))) (38 + w) (y_rv (x_u v 0 (x_wi (v 0 + m_tells T 0 v) 0 99)) (38 + w) + 1)) c2 = z_hp μ (m_tm (x_u v 0 (x_wi (v 0 + m_tells T 0 v) 0 99)) 3 1) c2 :=
    y_hp_congr μ c2 (fun k hk => y_tal_row1 _ hC1.1 h6 (q := 3) (p := 38) (Or.inl ⟨rfl, rfl⟩) 1 k hk)
  rw [z_get μ v c 0 (k := 0) rfl (by decide) (by decide), y_held_wi (by decide), x_b_s, x_pt_s, z_put μ v c2 0 (k := 0) rfl (by decide) (by decide), z_get μ _ c2 9 (k := 4) rfl (by decide) (by decide), hC1.1, ix, x_gd_t hi, x_gd_t hi, x_pt_s, x_ix_nI (by omega), z_hp, y_row _ _ _ (by omega), y_put _ _ _ (by omega), e1, x_pt_s, z_put μ _ c2 12 (k := 6) rfl (by decide) (by decide), x_pt_s, z_get μ _ c2 13 (k := 7) rfl (by decide) (by decide), z_put μ _ c2 13 (k := 7) rfl (by decide) (by decide)]
  have es : x_u (m_tm (x_u v 0 (x_wi (v 0 + m_tells T 0 v) 0 99)) 3 1) 12 0 = m_sl1 T v := by rw [m_sl1]
  have e2 : x_u (m_sl1 T v) 13 (m_sl1 T v 13 - 1) = m_sl2 (m_sl1 T v) := by rw [m_sl2]
  rw [es, e2, z_get μ _ c2 13 (k := 7) rfl (by decide) (by decide), m_asleep]
  obtain ⟨a, a0, a60, ha⟩ := hs
  have v13 : m_sl2 (m_sl1 T v) 13 = nI (a - 1) := by
    rw [m_sl2, x_ub, m_sl1, x_un _ _ (by decide), m_tm_lt _ _ _ (by decide), x_un _ _ (by decide), ha, show (1 : Int32) = nI 1 from rfl, pk_sub a0]
  rw [v13]
  by_cases h1 : a = 1
  · subst h1
    rw [if_pos (by decide), if_pos (by decide), x_pt_s, z_put μ _ c2 1 (k := 1) rfl (by decide) (by decide), x_pt_s, z_put μ _ c2 4 (k := 5) rfl (by decide) (by decide)]
  · rw [if_neg (by exact nI_nle (by omega) (by omega)), if_neg (by exact nI_ne0 (by omega) (by omega))]
theorem y_step (hT : y_Tx μ T lv N) {v : x_V} (hw : w < N) (hC : y_C μ T v w) (hs : ∃ a, a ≤ 60 ∧ v 13 = nI a) (c : y_Sc) : ∃ c2, F_X9_minuteGoes (z_hp μ v c) = some ((), z_hp μ (m_step T v) c2) := by
  have hN : N ≤ 6 := hT.2.1
  have k30 : ∀ (u : x_V) (c : y_Sc), F_X9_minuteGoes_30 (z_hp μ u c) = some ((), z_hp μ (x_u u 15 (u 15 + 1)) c) := by
    intro u c
    rw [F_X9_minuteGoes_30, x_pt_s, z_get μ _ c 15 (k := 12) rfl (by decide) (by decide), z_put μ _ c 15 (k := 12) rfl (by decide) (by decide)]
  obtain ⟨a, a60, ha⟩ := hs
  have hn : ¬ T.1 1 7 ≤ 0 := by rw [hT.2.2.2.1]; exact nI_nle (by omega) (by omega)
  rw [F_X9_minuteGoes, z_get μ v c 9 (k := 4) rfl (by decide) (by decide), hC.1, if_neg (nI_pos (by omega)), z_get μ v c 13 (k := 7) rfl (by decide) (by decide), m_step, m_mn, if_neg hn]
  by_cases h0 : v 13 ≤ 0
  · rw [if_pos h0, if_pos h0]
    exact y_be (h := fun c => z_hp μ _ c) (g := fun c => z_hp μ _ c) (y_awake hT hw hC c) (fun c => ⟨c, k30 _ c⟩)
  · rw [if_neg h0, if_neg h0]
    have a0 : 0 < a := by
      rcases Nat.eq_zero_or_pos a with q | q
      · subst q; exact absurd (by rw [ha]; decide) h0
      · exact q
    exact y_be (h := fun c => z_hp μ _ c) (g := fun c => z_hp μ _ c) (y_asleep hT hw hC ⟨a, a0, a60, ha⟩ c) (fun c => ⟨c, k30 _ c⟩)
end RM
