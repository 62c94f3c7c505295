/-! WHAT IS ASKED OF ORDERS -/
def m_OR (σ : x_Hp) (T : x_TT) (N : Nat) (v : x_V) (m : Nat) : Prop := ∀ (lv : Nat) (μ : x_Hp), y_Tx μ T lv N → (∀ k, k < 60 → μ.1 31 k = y_rv v k) → ∃ ν, F_X9_fillsOrders (nI m) μ = some ((), ν) ∧ y_sm μ ν ∧ O_A σ ν
def r_O (σ : x_Hp) (T : x_TT) (N : Nat) (v : x_V) (ch : Nat) : Prop := σ.1 143 10 = 0 ∨ ∃ m sc, 1 ≤ m ∧ m ≤ 10 ∧ σ.1 143 10 = nI m ∧ σ.1 143 11 = nI sc ∧ sc ≤ ch ∧ (sc = ch → m_OR σ T N v m)
theorem r_O.ag {σ τ : x_Hp} {T : x_TT} {N : Nat} {v : x_V} {ch : Nat} (h : r_O σ T N v ch) (e : ∀ a b, 143 ≤ a → a ≤ 152 → τ.1 a b = σ.1 a b) : r_O τ T N v ch := by
  rcases h with h | ⟨m, sc, h1, h2, h3, h4, h5, h6⟩
  · exact Or.inl (by rw [e _ _ (by omega) (by omega)]; exact h)
  · refine Or.inr ⟨m, sc, h1, h2, by rw [e _ _ (by omega) (by omega)]; exact h3, by rw [e _ _ (by omega) (by omega)]; exact h4, h5, fun q lv μ hT hv => ?_⟩
    obtain ⟨ν, a, b, c⟩ := h6 q lv μ hT hv
    exact ⟨ν, a, b, c.ag (fun i j h => e _ _ (by omega) (by omega)) (fun _ _ _ => rfl)⟩
/-- something changed: what was searched is of no account any more -/
theorem r_O.nx {σ τ : x_Hp} {T T' : x_TT} {N N' : Nat} {v v' : x_V} {ch : Nat} (h : r_O σ T N v ch) (e : ∀ b, τ.1 143 b = σ.1 143 b) : r_O τ T' N' v' (ch + 1) := by
  rcases h with h | ⟨m, sc, h1, h2, h3, h4, h5, h6⟩
  · exact Or.inl (by rw [e]; exact h)
  · exact Or.inr ⟨m, sc, h1, h2, by rw [e]; exact h3, by rw [e]; exact h4, by omega, fun q => by omega⟩
section Q8
variable {T : x_TT} {lv N t m ch : Nat} {v : x_V}
def q_SO (σ μ : x_Hp) (T : x_TT) (N : Nat) (v : x_V) (ch : Nat) (A B : Option (Int32 × x_Hp)) : Prop := ∃ r τ ν, A = some (r, τ) ∧ B = some (r, ν) ∧ x_so σ τ ∧ y_sm μ ν ∧ r_O τ T N v ch
theorem q_SO.c {σ μ : x_Hp} (h : r_O σ T N v ch) (r : Int32) : q_SO σ μ T N v ch (some (r, σ)) (some (r, μ)) := ⟨r, σ, μ, rfl, rfl, x_so.rf σ, y_sm.rf μ, h⟩
theorem o_get {σ μ : x_Hp} (hV : r_V σ μ T lv N t v) (h0 : 0 < N) (h13 : v 13 = nI 0) (ht : t < 2 ^ 29) (hm1 : 1 ≤ m) (hm : m ≤ 10) (hch : ch < 2 ^ 31) (hO : r_O σ T N v ch) : ∃ τ ν, F_X3_search 35 (nI m) (nI ch) σ = some ((), τ) ∧ F_X9_fillsOrders (nI m) μ = some ((), ν) ∧ x_so σ τ ∧ y_sm μ ν ∧ O_A τ ν ∧ r_O τ T N v ch := by
  have anew : ∃ τ ν, F_X3_search_17 35 (nI m) (nI ch) σ = some ((), τ) ∧ F_X9_fillsOrders (nI m) μ = some ((), ν) ∧ x_so σ τ ∧ y_sm μ ν ∧ O_A τ ν ∧ r_O τ T N v ch := by
    obtain ⟨τ, ν, a1, a2, a3, a4, a5, a6⟩ := o_search hV h0 h13 ht hm (nI ch)
    refine ⟨τ, ν, a1, a2, a3, a5, a6, Or.inr ⟨m, ch, hm1, hm, a4.1, a4.2, Nat.le_refl _, fun _ lv' μ' hT' hv' => ?_⟩⟩
    have hV' : r_V σ μ' T lv' N t v := ⟨hV.1, hT', hV.2.2.1, hV.2.2.2.1, hV.2.2.2.2.1, hv'⟩
    obtain ⟨τ', ν', b1, b2, -, -, b5, b6⟩ := o_search hV' h0 h13 ht hm (nI ch)
    rw [a1] at b1
    cases b1
    exact ⟨ν', b2, b5, b6⟩
  rw [F_X3_search]
  by_cases h1 : nI m = σ.1 143 10
  · rw [if_pos h1]
    by_cases h2 : nI ch = σ.1 143 11
    · rw [if_pos h2]
      rcases id hO with q | ⟨m', sc, q1, q2, q3, q4, q5, q6⟩
      · rw [q] at h1
        exact absurd h1 (nI_ne0 (by omega) (by omega))
      · rw [q3] at h1
        rw [q4] at h2
        have e1 : m = m' := (nI_eq (by omega) (by omega)).mp h1
        have e2 : ch = sc := (nI_eq (by omega) (by omega)).mp h2
        subst e1; subst e2
        obtain ⟨ν, a, b, c⟩ := q6 rfl lv μ hV.2.1 hV.2.2.2.2.2
        exact ⟨σ, ν, rfl, a, x_so.rf σ, b, c, hO⟩
    · rw [if_neg h2]; exact anew
  · rw [if_neg h1]; exact anew
theorem q_ob {σ μ : x_Hp} {A B : Int32 → x_Hp → Option (Int32 × x_Hp)} {r : Int32} (hO : r_O σ T N v ch) (x : Int32) {a' b' : Int32} (a b : Nat) (ha : a' = nI a) (hb : b' = nI b) (h31 : b < 2 ^ 31) (hab : a ≤ b) (h : ∀ j, a ≤ j → j ≤ b → x = nI j → q_SO σ μ T N v ch (A 1 σ) (B 1 μ)) : q_SO σ μ T N v ch (x_b (F_X8_between x a' b' σ) (fun v1 σ1 => if v1 = 0 then some (r, σ1) else A v1 σ1)) (x_b (F_X9_in x a' b' μ) (fun v1 σ1 => if v1 = 0 then some (r, σ1) else B v1 σ1)) := by
  rcases q_btw x a b ha hb h31 hab with ⟨k, k1, k2, e, hb, hi⟩ | ⟨hb, hi, -⟩
  · rw [hb, hi, x_b_s, x_b_s, if_neg (by decide), if_neg (by decide)]; exact h k k1 k2 e
  · rw [hb, hi, x_b_s, x_b_s, if_pos rfl, if_pos rfl]; exact q_SO.c hO _
theorem q_ow {σ μ : x_Hp} {A B : Int32 → x_Hp → Option (Int32 × x_Hp)} {r : Int32} (hV : r_V σ μ T lv N t v) (hO : r_O σ T N v ch) (h : 0 < N → v 13 = nI 0 → m_Wy T N v → q_SO σ μ T N v ch (A 0 σ) (B 1 μ)) : q_SO σ μ T N v ch (x_b (F_X8_asleepOrAlone σ) (fun v1 σ1 => if v1 = 0 then A v1 σ1 else some (r, σ1))) (x_b (F_X9_isAwake μ) (fun v1 σ1 => if v1 = 0 then some (r, σ1) else B v1 σ1)) := by
  rcases q_awake hV with ⟨a, b, c, d, e⟩ | ⟨a, b, -⟩
  · rw [a, b, x_b_s, x_b_s, if_pos rfl, if_neg (by decide)]; exact h c d e
  · rw [a, b, x_b_s, x_b_s, if_neg (by decide), if_pos rfl]; exact q_SO.c hO _
theorem q_oa {σ μ : x_Hp} {A B : Int32 → x_Hp → Option (Int32 × x_Hp)} {r : Int32} (hV : r_V σ μ T lv N t v) (hO : r_O σ T N v ch) (x : Int32) (h : ∀ a, a < N → x = nI a → q_SO σ μ T N v ch (A 1 σ) (B 1 μ)) : q_SO σ μ T N v ch (x_b (F_X8_isAunt x σ) (fun v1 σ1 => if v1 = 0 then some (r, σ1) else A v1 σ1)) (x_b (F_X9_isAunt x μ) (fun v1 σ1 => if v1 = 0 then some (r, σ1) else B v1 σ1)) := by
  rcases q_aunt hV x with ⟨a, ha, e, b, c⟩ | ⟨b, c⟩
  · rw [b, c, x_b_s, x_b_s, if_neg (by decide), if_neg (by decide)]; exact h a ha e
  · rw [b, c, x_b_s, x_b_s, if_pos rfl, if_pos rfl]; exact q_SO.c hO _
theorem q_order {σ μ : x_Hp} (h : r_V σ μ T lv N t v) (hO : r_O σ T N v ch) (ht : t < 2 ^ 29) (hch : ch < 2 ^ 31) (h3 : σ.1 39 3 = nI ch) (x : Int32) : q_SO σ μ T N v ch (F_X8_order x σ) (F_X9_order x μ) := by
  rw [F_X8_order, F_X9_order, isShort_eq]
  refine q_ob hO x 1 10 rfl rfl (by decide) (by decide) ?_
  rintro m m1 m2 rfl
  refine q_ow h hO ?_
  intro h0 h13 hW
  obtain ⟨τ, ν, a1, a2, a3, a4, a5, a6⟩ := o_get h h0 h13 ht m1 m2 hch hO
  rw [h3, a1, x_b_s, a2, x_b_s, a5.1.2.2.1]
  exact ⟨_, τ, ν, rfl, rfl, a3, a4, a6⟩
theorem q_sitters {σ μ : x_Hp} (h : r_V σ μ T lv N t v) (hO : r_O σ T N v ch) (ht : t < 2 ^ 29) (hch : ch < 2 ^ 31) (h3 : σ.1 39 3 = nI ch) (x : Int32) : q_SO σ μ T N v ch (F_X8_sitters x σ) (F_X9_sitters x μ) := by
  rw [F_X8_sitters, F_X9_sitters, isShort_eq]
  refine q_ob hO x 1 10 rfl rfl (by decide) (by decide) ?_
  rintro m m1 m2 rfl
  refine q_ow h hO ?_
  intro h0 h13 hW
  obtain ⟨τ, ν, a1, a2, a3, a4, a5, a6⟩ := o_get h h0 h13 ht m1 m2 hch hO
  rw [h3, a1, x_b_s, a2, x_b_s, a5.2.2.1]
  exact ⟨_, τ, ν, rfl, rfl, a3, a4, a6⟩
theorem q_luck {σ μ : x_Hp} (h : r_V σ μ T lv N t v) (hO : r_O σ T N v ch) (ht : t < 2 ^ 29) (hch : ch < 2 ^ 31) (h3 : σ.1 39 3 = nI ch) (x1 x2 : Int32) : q_SO σ μ T N v ch (F_X8_luck x1 x2 σ) (F_X9_luck x1 x2 μ) := by
  have n6 := h.n.2.1
  rw [F_X8_luck, F_X9_luck]
  refine q_oa h hO x1 ?_
  rintro a ha rfl
  rw [isShort_eq]
  refine q_ob hO x2 1 10 rfl rfl (by decide) (by decide) ?_
  rintro m m1 m2 rfl
  refine q_ow h hO ?_
  intro h0 h13 hW
  obtain ⟨τ, ν, a1, a2, a3, a4, a5, a6⟩ := o_get h h0 h13 ht m1 m2 hch hO
  rw [h3, a1, x_b_s, a2, x_b_s, e_at, x_b_s, x_aT_nI _ _ (by rw [lnX_150]; omega), a5.2.2.2 a (by omega), x_gd_t (x_inb_nI (by omega) (by decide)), x_ix_nI (by omega)]
  exact ⟨_, τ, ν, rfl, rfl, a3, a4, a6⟩
theorem q_fairest {σ μ : x_Hp} (h : r_V σ μ T lv N t v) (hO : r_O σ T N v ch) (ht : t < 2 ^ 29) (hch : ch < 2 ^ 31) (h3 : σ.1 39 3 = nI ch) (x1 x2 : Int32) : q_SO σ μ T N v ch (F_X8_fairest x1 x2 σ) (F_X9_fairest x1 x2 μ) := by
  rw [F_X8_fairest, F_X9_fairest, isShort_eq]
  refine q_ob hO x1 1 10 rfl rfl (by decide) (by decide) ?_
  rintro m m1 m2 rfl
  refine q_ob hO x2 0 1 rfl rfl (by decide) (by decide) ?_
  rintro w - - rfl
  refine q_ow h hO ?_
  intro h0 h13 hW
  obtain ⟨τ, ν, a1, a2, a3, a4, a5, a6⟩ := o_get h h0 h13 ht m1 m2 hch hO
  rw [h3, a1, x_b_s, a2, x_b_s, a5.2.1.2.2.1, a5.2.1.2.2.2]
  split
  · exact ⟨_, τ, ν, rfl, rfl, a3, a4, a6⟩
  · exact ⟨_, τ, ν, rfl, rfl, a3, a4, a6⟩
theorem q_orderAt {σ μ : x_Hp} (h : r_V σ μ T lv N t v) (hO : r_O σ T N v ch) (ht : t < 2 ^ 29) (hch : ch < 2 ^ 31) (h3 : σ.1 39 3 = nI ch) (x1 x2 : Int32) : q_SO σ μ T N v ch (F_X8_orderAt x1 x2 σ) (F_X9_orderAt x1 x2 μ) := by
  obtain ⟨n1, n6, n7⟩ := h.n
  obtain ⟨hlv, y18, y10⟩ := h.y18
  rw [F_X8_orderAt, F_X9_orderAt, isShort_eq]
  refine q_ob hO x1 1 10 rfl rfl (by decide) (by decide) ?_
  rintro m m1 m2 rfl
  by_cases hx : (0 : Int32) ≤ x2
  · rw [if_pos hx, if_pos hx]
    refine q_ow h hO ?_
    intro h0 h13 hW
    obtain ⟨j, hj, rfl⟩ := nI_of (x := x2) (by rw [Int32.lt_iff_toInt_lt]; rw [Int32.le_iff_toInt_le] at hx; omega)
    rw [n1]
    by_cases hN : j < N
    · obtain ⟨τ, ν, a1, a2, a3, a4, a5, a6⟩ := o_get h h0 h13 ht m1 m2 hch hO
      have hV2 := h.so a3 a4
      obtain ⟨-, z18, z10⟩ := hV2.y18
      rw [if_pos (nI_lt hN (by omega)), h3, a1, x_b_s, a2, x_b_s, z18, x_gd_t (x_inb_nI hlv (by decide)), x_ix_nI (by omega), z10, if_neg (nI_ge hN (by omega)), x_gd_t (x_inb_nI (by omega) (by decide)), x_ix_nI (by omega), e_at, x_b_s, x_aT_nI _ _ (by rw [lnX_149]; omega), a5.1.2.2.2 j (by omega)]
      exact ⟨_, τ, ν, rfl, rfl, a3, a4, a6⟩
    · obtain ⟨-, ν, -, a2, -, -, a5, -⟩ := o_search h h0 h13 ht m2 (nI ch)
      have hV2 := h.so (x_so.rf σ) a5
      obtain ⟨-, z18, z10⟩ := hV2.y18
      rw [if_neg (nI_nlt (by omega) hj), a2, x_b_s, z18, x_gd_t (x_inb_nI hlv (by decide)), x_ix_nI (by omega), z10, if_pos (nI_le (by omega) hj)]
      exact ⟨_, σ, ν, rfl, rfl, x_so.rf σ, a5, hO⟩
  · rw [if_neg hx, if_neg hx]; exact q_SO.c hO _
end Q8
