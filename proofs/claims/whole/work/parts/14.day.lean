/-! A MINUTE AND WHAT IS DONE BY HAND, the class's -/
theorem x_be {α β : Type} {x : Option (α × x_Hp)} {f : α → x_Hp → Option (β × x_Hp)} {a : α} {h : x_Sc → x_Hp} {b : β} {g : x_Sc → x_Hp} (h1 : ∃ c, x = some (a, h c)) (h2 : ∀ c, ∃ c2, f a (h c) = some (b, g c2)) : ∃ c2, x_b x f = some (b, g c2) := by
  obtain ⟨c, e⟩ := h1
  rw [e]
  exact h2 c
theorem x_ub {α : Type} (f : Nat → α) (k : Nat) (v : α) : x_u f k v k = v := by simp [x_u]
theorem x_un {α : Type} (f : Nat → α) {k j : Nat} (v : α) (h : j ≠ k) : x_u f k v j = f j := by simp [x_u, h]
theorem m_tm_lt (v : x_V) (w x : Int32) {k : Nat} (h : k < 20) : m_tm v w x k = v k := by
  rw [m_tm]
  split
  · rw [x_un _ _ (by omega)]
  · rfl
theorem e_lot (sd w : Int32) (σ : x_Hp) : F_X0_lot 100 sd w σ = some (m_lot sd w, σ) := by
  rw [F_X0_lot, if_neg (by decide), x_gd_t (by decide)]
  rfl
section DAY
variable {s : Nat} (hs : x_St s) {σ : x_Hp} {T : x_TT} (hT : x_Tx σ T)
theorem e_fall (hs : x_St s) (v : x_V) (c : x_Sc) : F_X0_fallAsleep 34 s (x_hp σ s v c) = some ((), x_hp σ s (m_fall v) c) := by
  simp only [F_X0_fallAsleep, x_pt_s, x_hp_put, x_hp_get, m_fall, Nat.reduceLT]
  rfl
theorem x_tx1 (hs : x_St s) (hT : x_Tx σ T) (v : x_V) (c : x_Sc) (b : Nat) : (x_hp σ s v c).1 1 b = T.1 1 b := (hT.hp hs v c).1 b
theorem x_txa (hs : x_St s) (hT : x_Tx σ T) (v : x_V) (c : x_Sc) (r : Nat) (h1 : 3 ≤ r) (h2 : r ≤ 7) (hl : x_ln TX r = 6) (x : Int32) : x_aT (x_hp σ s v c) r x = m_atT T r 6 x := by
  rw [x_aT, hl, m_atT]
  split
  · exact (hT.hp hs v c).2.1 r _ h1 h2
  · rfl
theorem e_spit (hs : x_St s) (hT : x_Tx σ T) (v : x_V) (c : x_Sc) : F_X0_spit 34 s (x_hp σ s v c) = some ((), x_hp σ s (m_spit T v) c) := by
  have e1 : m_tm (x_u v 3 0) 6 1 = m_sp1 v := by rw [m_sp1]
  simp only [F_X0_spit, x_pt_s, x_hp_put, Nat.reduceLT, e_tm hs, x_b_s, e1, x_hp_get, rfX_34_0, rfX_1_12, e_at, x_txa hs hT _ _ 6 (by decide) (by decide) lnX_6, m_spit]
  split
  · rfl
  · rfl
theorem e_w6 (hs : x_St s) (hT : x_Tx σ T) (v : x_V) (c : x_Sc) : ∃ c2, F_X0_stepAwake_217 34 s (x_hp σ s v c) = some ((), x_hp σ s (m_w6 T v) c2) := by
  rw [F_X0_stepAwake_217, rfX_34_0, rfX_1_14]
  refine x_be (h := fun c => x_hp σ s v c) (g := fun c => x_hp σ s (m_w6 T v) c) (e_tells hs hT v c (k := 5) (by decide)) (fun c => ?_)
  simp only [m_w6]
  by_cases h : m_tells T 5 v ≤ 0
  · rw [if_pos h, if_pos h]; exact ⟨c, rfl⟩
  · rw [if_neg h, if_neg h, e_fall hs, x_b_s]; exact ⟨c, rfl⟩
theorem e_w5 (hs : x_St s) (hT : x_Tx σ T) (v : x_V) (c : x_Sc) : ∃ c2, F_X0_stepAwake_183 34 s (x_hp σ s v c) = some ((), x_hp σ s (m_w6 T (m_w5 T v)) c2) := by
  rw [F_X0_stepAwake_183, x_hp_get _ _ _ _ (by decide), x_hp_get _ _ _ _ (by decide), e_lot, x_b_s, rfX_34_0, rfX_1_14]
  refine x_be (h := fun c => x_hp σ s v c) (g := fun c => x_hp σ s (m_w6 T (m_w5 T v)) c) (e_tells hs hT v c (k := 6) (by decide)) (fun c => ?_)
  simp only [m_w5]
  by_cases h : m_tells T 6 v ≤ m_lot (v 16) (v 15)
  · rw [if_pos h, if_pos h]; exact e_w6 hs hT v c
  · rw [if_neg h, if_neg h, e_spit hs hT, x_b_s]; exact e_w6 hs hT _ c
theorem e_awake (hs : x_St s) (hT : x_Tx σ T) (v : x_V) (c : x_Sc) : ∃ c2, F_X0_stepAwake 34 s (x_hp σ s v c) = some ((), x_hp σ s (m_awake T v) c2) := by
  rw [F_X0_stepAwake, rfX_34_0, rfX_1_14]
  refine x_be (h := fun c => x_hp σ s v c) (g := fun c => x_hp σ s (m_awake T v) c) (e_tells hs hT v c (k := 0) (by decide)) (fun c => ?_)
  refine x_be (h := fun c => x_hp σ s v c) (g := fun c => x_hp σ s (m_awake T v) c) (e_tells hs hT v c (k := 1) (by decide)) (fun c => ?_)
  refine x_be (h := fun c => x_hp σ s v c) (g := fun c => x_hp σ s (m_awake T v) c) (e_tells hs hT v c (k := 2) (by decide)) (fun c => ?_)
  refine x_be (h := fun c => x_hp σ s v c) (g := fun c => x_hp σ s (m_awake T v) c) (e_tells hs hT v c (k := 3) (by decide)) (fun c => ?_)
  simp only [e_within, x_b_s, x_pt_s, x_hp_put, x_hp_get, Nat.reduceLT]
  have e1 : x_u (x_u (x_u (x_u v 0 (x_wi (v 0 + m_tells T 0 v) 0 99)) 1 (x_wi (x_u v 0 (x_wi (v 0 + m_tells T 0 v) 0 99) 1 + m_tells T 1 v) 0 99)) 2 (x_wi (x_u (x_u v 0 (x_wi (v 0 + m_tells T 0 v) 0 99)) 1 (x_wi (x_u v 0 (x_wi (v 0 + m_tells T 0 v) 0 99) 1 + m_tells T 1 v) 0 99) 2 + m_tells T 2 v) 0 99)) 3 (x_wi (x_u (x_u (x_u v 0 (x_wi (v 0 + m_tells T 0 v) 0 99)) 1 (x_wi (x_u v 0 (x_wi (v 0 + m_tells T 0 v) 0 99) 1 + m_tells T 1 v) 0 99)) 2 (x_wi (x_u (x_u v 0 (x_wi (v 0 + m_tells T 0 v) 0 99)) 1 (x_wi (x_u v 0 (x_wi (v 0 + m_tells T 0 v) 0 99) 1 + m_tells T 1 v) 0 99) 2 + m_tells T 2 v) 0 99) 3 + m_tells T 3 v) 0 99) = m_w1 T v := by
    simp (decide := true) only [m_w1, x_un, ne_eq, not_false_eq_true]
  rw [e1]
  refine x_be (h := fun c => x_hp σ s _ c) (g := fun c => x_hp σ s (m_awake T v) c) (e_tells hs hT _ c (k := 4) (by decide)) (fun c => ?_)
  have e2 : x_u (x_u (m_w1 T v) 4 (m_w1 T v 4 + 1)) 12 (m_tells T 4 (x_u (m_w1 T v) 4 (m_w1 T v 4 + 1))) = m_w2 T (m_w1 T v) := by rw [m_w2]
  rw [x_hp_put _ _ _ _ (by decide), e2, e_tm hs, x_b_s, x_hp_get _ _ _ _ (by decide), e_tm hs, x_b_s, x_hp_get _ _ _ _ (by decide), x_hp_get _ _ _ _ (by decide)]
  have e3 : m_tm (m_tm (m_w2 T (m_w1 T v)) 0 1) 1 (m_tm (m_w2 T (m_w1 T v)) 0 1 12) = m_w3 (m_w2 T (m_w1 T v)) := by rw [m_w3]
  rw [e3, m_awake]
  generalize m_w3 (m_w2 T (m_w1 T v)) = w
  rw [m_w4]
  by_cases h : w 12 = 0
  · by_cases h2 : w 2 < 50
    · rw [if_pos h, if_pos h, if_pos h2, if_pos h2]; exact e_w5 hs hT _ c
    · rw [if_pos h, if_pos h, if_neg h2, if_neg h2, e_tm hs, x_b_s]; exact e_w5 hs hT _ c
  · rw [if_neg h, if_neg h]; exact e_w5 hs hT _ c
theorem e_asleep (hs : x_St s) (hT : x_Tx σ T) (v : x_V) (c : x_Sc) : ∃ c2, F_X0_stepAsleep 34 s (x_hp σ s v c) = some ((), x_hp σ s (m_asleep T v) c2) := by
  rw [F_X0_stepAsleep, rfX_34_0, rfX_1_14]
  refine x_be (h := fun c => x_hp σ s v c) (g := fun c => x_hp σ s (m_asleep T v) c) (e_tells hs hT v c (k := 0) (by decide)) (fun c => ⟨c, ?_⟩)
  simp only [e_within, x_b_s, x_pt_s, x_hp_put, x_hp_get, Nat.reduceLT, e_tm hs]
  have e1 : x_u (m_tm (x_u v 0 (x_wi (v 0 + m_tells T 0 v) 0 99)) 3 1) 12 0 = m_sl1 T v := by rw [m_sl1]
  rw [e1]
  have e2 : x_u (m_sl1 T v) 13 (m_sl1 T v 13 - 1) = m_sl2 (m_sl1 T v) := by rw [m_sl2]
  rw [e2, m_asleep]
  split <;> rfl
theorem e_step (hs : x_St s) (hT : x_Tx σ T) (v : x_V) (c : x_Sc) : ∃ c2, F_X0_step 34 s (x_hp σ s v c) = some ((), x_hp σ s (m_step T v) c2) := by
  have k30 : ∀ (v : x_V) (c : x_Sc), F_X0_step_30 s (x_hp σ s v c) = some ((), x_hp σ s (x_u v 15 (v 15 + 1)) c) := by
    intro v c
    simp only [F_X0_step_30, x_pt_s, x_hp_put, x_hp_get, Nat.reduceLT]
  rw [F_X0_step, rfX_34_0, x_tx1 hs hT, x_hp_get _ _ _ _ (by decide)]
  simp only [m_step, m_mn]
  by_cases h : T.1 1 7 ≤ 0
  · simp only [if_pos h]; exact ⟨c, k30 v c⟩
  · simp only [if_neg h]
    by_cases h2 : v 13 ≤ 0
    · simp only [if_pos h2]
      exact x_be (h := fun c => x_hp σ s _ c) (g := fun c => x_hp σ s _ c) (e_awake hs hT v c) (fun c => ⟨c, k30 _ c⟩)
    · simp only [if_neg h2]
      exact x_be (h := fun c => x_hp σ s _ c) (g := fun c => x_hp σ s _ c) (e_asleep hs hT v c) (fun c => ⟨c, k30 _ c⟩)
theorem e_give (hs : x_St s) (hT : x_Tx σ T) (v : x_V) (c : x_Sc) (a : Int32) : F_X0_giveTo 34 s a (x_hp σ s v c) = some ((), x_hp σ s (m_give T v a) c) := by
  simp only [F_X0_giveTo, x_pt_s, x_hp_put, x_hp_get, Nat.reduceLT, rfX_34_0, rfX_1_9, rfX_1_10, rfX_1_11, e_at, x_b_s, x_txa hs hT _ _ 3 (by decide) (by decide) lnX_3, x_txa hs hT _ _ 4 (by decide) (by decide) lnX_4, x_txa hs hT _ _ 5 (by decide) (by decide) lnX_5, m_give, m_gv]
  split <;> rfl
theorem e_over (hs : x_St s) (hT : x_Tx σ T) (v : x_V) (c : x_Sc) (a : Int32) : F_X0_giveOver 34 s a (x_hp σ s v c) = some ((), x_hp σ s (m_over T v a) c) := by
  have k37 : ∀ v, F_X0_giveOver_37 34 s a (x_hp σ s v c) = some ((), x_hp σ s (m_give T (m_ov v) a) c) := by
    intro v
    simp only [F_X0_giveOver_37, x_pt_s, x_hp_put, x_hp_get, Nat.reduceLT, e_give hs hT, x_b_s, m_ov]
    rfl
  simp only [F_X0_giveOver, x_pt_s, x_hp_put, x_hp_get, Nat.reduceLT, rfX_34_0, x_tx1 hs hT, k37, m_over, m_fr]
  split
  · rfl
  · split <;> rfl
theorem e_feed (hs : x_St s) (hT : x_Tx σ T) (v : x_V) (c : x_Sc) : F_X0_feedNow 34 s (x_hp σ s v c) = some ((), x_hp σ s (m_feed T v) c) := by
  simp only [F_X0_feedNow, x_pt_s, x_hp_put, x_hp_get, Nat.reduceLT, rfX_34_0, x_tx1 hs hT, m_feed]
  rfl
theorem e_goOn (hs : x_St s) (hT : x_Tx σ T) : ∀ (d n i : Nat) (v : x_V) (c : x_Sc), i + d < 2 ^ 31 → d < n → ∃ c2, F_X0_goOn_2 n 34 s (nI (i + d)) (nI i) (x_hp σ s v c) = some ((), x_hp σ s (m_goes T d v) c2) := by
  intro d
  induction d with
  | zero =>
    intro n i v c h1 h2
    obtain ⟨n, rfl⟩ : ∃ m, n = m + 1 := ⟨n - 1, by omega⟩
    rw [F_X0_goOn_2, if_pos (by simp)]
    exact ⟨c, rfl⟩
  | succ d ih =>
    intro n i v c h1 h2
    obtain ⟨n, rfl⟩ : ∃ m, n = m + 1 := ⟨n - 1, by omega⟩
    rw [F_X0_goOn_2, if_neg (nI_ge (by omega) (by omega))]
    refine x_be (h := fun c => x_hp σ s _ c) (g := fun c => x_hp σ s _ c) (e_step hs hT v c) (fun c => ?_)
    have := ih n (i + 1) (m_step T v) c (by omega) (by omega)
    rw [show i + 1 + d = i + (d + 1) by omega, ← nI_1] at this
    exact this
theorem e_cried (hs : x_St s) (hT : x_Tx σ T) (v : x_V) (c : x_Sc) {k : Nat} (hk : k < 60000) : ∃ c2, F_X0_cried 34 s (nI k) (x_hp σ s v c) = some (m_all (m_goes T k v) 1 - m_all v 1, x_hp σ s (m_goes T k v) c2) := by
  have loop : ∀ (d n i : Nat) (v : x_V) (c : x_Sc) (a0 : Int32), i + d < 2 ^ 31 → d < n → ∃ c2, F_X0_cried_9 n 34 s (nI (i + d)) a0 (nI i) (x_hp σ s v c) = some (m_all (m_goes T d v) 1 - a0, x_hp σ s (m_goes T d v) c2) := by
    intro d
    induction d with
    | zero =>
      intro n i v c a0 h1 h2
      obtain ⟨n, rfl⟩ : ∃ m, n = m + 1 := ⟨n - 1, by omega⟩
      rw [F_X0_cried_9, if_pos (by simp), e_all hs, x_b_s]
      exact ⟨c, rfl⟩
    | succ d ih =>
      intro n i v c a0 h1 h2
      obtain ⟨n, rfl⟩ : ∃ m, n = m + 1 := ⟨n - 1, by omega⟩
      rw [F_X0_cried_9, if_neg (nI_ge (by omega) (by omega))]
      refine x_be (h := fun c => x_hp σ s _ c) (g := fun c => x_hp σ s _ c) (e_step hs hT v c) (fun c => ?_)
      have := ih n (i + 1) (m_step T v) c a0 (by omega) (by omega)
      rw [show i + 1 + d = i + (d + 1) by omega, ← nI_1] at this
      exact this
  rw [F_X0_cried, e_all hs, x_b_s]
  have := loop k x_fuel 0 v c (m_all v 1) (by omega) (by rw [x_fuel]; omega)
  rw [Nat.zero_add] at this
  exact this
end DAY
