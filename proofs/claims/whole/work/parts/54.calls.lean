/-! THE CALLS THAT DO SOMETHING -/
theorem r_gb {K : Nat} {σ μ : x_Hp} {A B : Int32 → x_Hp → Option (Int32 × x_Hp)} {r : Int32} (hR : r_rel K σ μ) (x : Int32) {a' b' : Int32} (a b : Nat) (ha : a' = nI a) (hb : b' = nI b) (h31 : b < 2 ^ 31) (hab : a ≤ b) (h : ∀ j, a ≤ j → j ≤ b → x = nI j → r_call (K + 1) (A 1 σ) (B 1 μ)) : r_call (K + 1) (x_b (F_X8_between x a' b' σ) (fun v1 σ1 => if v1 = 0 then some (r, σ1) else A v1 σ1)) (x_b (F_X9_in x a' b' μ) (fun v1 σ1 => if v1 = 0 then some (r, σ1) else B v1 σ1)) := by
  rcases q_btw x a b ha hb h31 hab with ⟨k, k1, k2, e, hb, hi⟩ | ⟨hb, hi, -⟩
  · rw [hb, hi, x_b_s, x_b_s, if_neg (by decide), if_neg (by decide)]; exact h k k1 k2 e
  · rw [hb, hi, x_b_s, x_b_s, if_pos rfl, if_pos rfl]; exact hR.same _
section D1
variable {T : x_TT} {lv N t : Nat} {v : x_V}
theorem at35 {τ : x_Hp} (h : x_gS τ 35 = v) : τ = x_hp τ 35 v (x_sc τ) := by
  have := x_hp_of τ x_St35
  rwa [h] at this
theorem d_minutes {K : Nat} {σ μ : x_Hp} (h : r_rel K σ μ) (x : Int32) : r_call (K + 1) (F_X8_minutes x σ) (F_X9_minutes x μ) := by
  rw [F_X8_minutes, F_X9_minutes]
  refine r_gb h x 0 240 rfl rfl (by decide) (by decide) ?_
  rintro n - n2 rfl
  obtain ⟨T, lv, N, v, ch, h1, h2, h3, h4, h5, h6, h7⟩ := id h
  obtain ⟨n1, n6, n7⟩ := h1.n
  rcases Nat.eq_zero_or_pos n with z | z
  · subst z
    rw [if_pos (show nI 0 ≤ 0 by decide), if_pos (show nI 0 = 0 from rfl), h1.g (by decide), h1.m (k := 12) 15 rfl (by decide) (by decide)]
    exact h.same _
  · have hJ := (h1.2.2.2.2.1.goes n7 n6 n).mono (t := 241 * K + n) (u := 241 * (K + 1)) (by omega)
    obtain ⟨τ, a1, a2, a3, a4⟩ := d_push (u := m_goes T n v) h1 h2 h3 h4 h5 h6 h7 hJ
    obtain ⟨c2, g⟩ := e_goOn x_St35 a3 n x_fuel 0 v (x_sc τ) (by omega) (by rw [x_fuel]; omega)
    rw [← at35 a2, Nat.zero_add] at g
    obtain ⟨d2, f⟩ := z_goes h1.t0 h1.H (y_sc μ) (k := n) (by omega)
    obtain ⟨ν, b1, b2, b3⟩ := a4 c2 (y_m0 μ lv) d2 (y_m0.sm μ lv)
    rw [if_neg (nI_nle z (by omega)), if_neg (nI_ne0 z (by omega)), a1, x_b_s, z_take h1, x_b_s, f, x_b_s, b1, x_b_s, F_X0_goOn, show (0 : Int32) = nI 0 from rfl, g, x_b_s, x_hp_get _ _ _ _ (by decide), b2 12 (by decide), y_rv_g _ (j := 15) (k := 12) rfl (by decide) (by decide)]
    exact ⟨_, _, _, rfl, rfl, b3⟩
theorem d_hand {K : Nat} {σ μ : x_Hp} (h : r_rel K σ μ) (x : Int32) : r_call (K + 1) (F_X8_hand x σ) (F_X9_hand x μ) := by
  obtain ⟨T, lv, N, v, ch, h1, h2, h3, h4, h5, h6, h7⟩ := id h
  obtain ⟨n1, n6, n7⟩ := h1.n
  rw [F_X8_hand, F_X9_hand]
  rcases q_aunt h1 x with ⟨a, ha, rfl, b, c⟩ | ⟨b, c⟩
  · rw [b, c, x_b_s, x_b_s, if_neg (show ¬ (1 : Int32) = 0 by decide), if_neg (show ¬ (1 : Int32) = 0 by decide), h1.g (by decide), h1.g (by decide)]
    have hW := h1.2.2.2.2.1.W (by omega)
    obtain ⟨s, s60, e13⟩ := hW.1.2.1
    rcases q_awake h1 with ⟨-, qw, -, h13, -⟩ | ⟨-, qw, hz⟩
    · rw [qw, x_b_s, if_neg (show ¬ (1 : Int32) = 0 by decide), h1.m (k := 4) 9 rfl (by decide) (by decide), h13, if_pos (show nI 0 ≤ 0 by decide)]
      by_cases q : nI a = v 9
      · rw [if_pos q, if_pos q]; exact h.same _
      · have hJ := (h1.2.2.2.2.1.over n6 h1.2.2.1 ha).mono (t := 241 * K) (u := 241 * (K + 1)) (by omega)
        obtain ⟨τ, a1, a2, a3, a4⟩ := d_push (u := m_over T v (nI a)) h1 h2 h3 h4 h5 h6 h7 hJ
        have g := e_over x_St35 a3 v (x_sc τ) (nI a)
        rw [← at35 a2] at g
        obtain ⟨ν, b1, b2, b3⟩ := a4 (x_sc τ) (y_m0 μ lv) (y_sc μ) (y_m0.sm μ lv)
        rw [if_neg q, if_neg q, a1, x_b_s, z_take h1, x_b_s, y_hands h1.t0 h1.2.2.1 hW.1 _ ha, x_b_s, b1, x_b_s, g, x_b_s]
        exact ⟨_, _, _, rfl, rfl, b3⟩
    · have : ¬ v 13 ≤ 0 := by
        rcases hz with q | q
        · omega
        · intro r; rw [Int32.lt_iff_toInt_lt] at q; rw [Int32.le_iff_toInt_le] at r; omega
      rw [qw, x_b_s, if_pos rfl, if_neg this]
      split
      · exact h.same _
      · exact h.same _
  · rw [b, c, x_b_s, x_b_s, if_pos rfl, if_pos rfl]; exact h.same _
theorem d_nurse {K : Nat} {σ μ : x_Hp} (h : r_rel K σ μ) : r_call (K + 1) (F_X8_nurse σ) (F_X9_nurse μ) := by
  obtain ⟨T, lv, N, v, ch, h1, h2, h3, h4, h5, h6, h7⟩ := id h
  rw [F_X8_nurse, F_X9_nurse]
  rcases q_awake h1 with ⟨b, c, h0, h13, hW⟩ | ⟨b, c, -⟩
  · rw [b, c, x_b_s, x_b_s, if_pos rfl, if_neg (show ¬ (1 : Int32) = 0 by decide)]
    have hJ := (h1.2.2.2.2.1.feed h1.2.2.1).mono (t := 241 * K) (u := 241 * (K + 1)) (by omega)
    obtain ⟨τ, a1, a2, a3, a4⟩ := d_push (u := m_feed T v) h1 h2 h3 h4 h5 h6 h7 hJ
    have g := e_feed x_St35 a3 v (x_sc τ)
    rw [← at35 a2] at g
    obtain ⟨ν, b1, b2, b3⟩ := a4 (x_sc τ) (y_m0 μ lv) (y_sc μ) (y_m0.sm μ lv)
    rw [a1, x_b_s, z_take h1, x_b_s, y_feed h1.t0 h1.2.2.1 hW.1, x_b_s, b1, x_b_s, g, x_b_s]
    exact ⟨_, _, _, rfl, rfl, b3⟩
  · rw [b, c, x_b_s, x_b_s, if_neg (show ¬ (1 : Int32) = 0 by decide), if_pos rfl]; exact h.same _
theorem d_lay {K : Nat} {σ μ : x_Hp} (h : r_rel K σ μ) : r_call (K + 1) (F_X8_lay σ) (F_X9_lay μ) := by
  obtain ⟨T, lv, N, v, ch, h1, h2, h3, h4, h5, h6, h7⟩ := id h
  rw [F_X8_lay, F_X9_lay]
  rcases q_awake h1 with ⟨b, c, h0, h13, hW⟩ | ⟨b, c, -⟩
  · rw [b, c, x_b_s, x_b_s, if_pos rfl, if_neg (show ¬ (1 : Int32) = 0 by decide)]
    have hJ := (h1.2.2.2.2.1.fall h0).mono (t := 241 * K + 1) (u := 241 * (K + 1)) (by omega)
    obtain ⟨τ, a1, a2, a3, a4⟩ := d_push (u := m_fall v) h1 h2 h3 h4 h5 h6 h7 hJ
    have g := e_fall x_St35 v (x_sc τ) (σ := τ)
    rw [← at35 a2] at g
    obtain ⟨ν, b1, b2, b3⟩ := a4 (x_sc τ) (y_m0 μ lv) (y_sc μ) (y_m0.sm μ lv)
    rw [a1, x_b_s, z_take h1, x_b_s, y_fall, x_b_s, b1, x_b_s, g, x_b_s]
    exact ⟨_, _, _, rfl, rfl, b3⟩
  · rw [b, c, x_b_s, x_b_s, if_neg (show ¬ (1 : Int32) = 0 by decide), if_pos rfl]; exact h.same _
theorem d_cloth {K : Nat} {σ μ : x_Hp} (h : r_rel K σ μ) (x : Int32) : r_call (K + 1) (F_X8_cloth x σ) (F_X9_cloth x μ) := by
  obtain ⟨T, lv, N, v, ch, h1, h2, h3, h4, h5, h6, h7⟩ := id h
  have key : ∀ s : Int32, r_call (K + 1) (if x = 0 then F_X8_cloth_16 x s σ else F_X8_cloth_16 x s σ) (x_b (F_X9_turns_19 8 x s (z_hp (y_m0 μ lv) v (y_sc μ))) (fun v1 σ1 => x_gd (x_isz v1) (some (v1, σ1)))) ∨ ¬ (s = 0 ∨ s = 1) := by
    intro s
    by_cases hs : s = 0 ∨ s = 1
    · left
      have isz : x_isz s = true := by rcases hs with rfl | rfl <;> decide
      have one : ∀ w : Int32, r_call (K + 1) (x_b (F_X7_note 35 σ) (fun _ σ1 => F_X8_cloth_41 s w σ1)) (x_b (F_X9_turns_34 s w 8 (z_hp (y_m0 μ lv) v (y_sc μ))) (fun v1 σ1 => x_gd (x_isz v1) (some (v1, σ1)))) := by
        intro w
        have hJ := (h1.2.2.2.2.1.u (k := 14) (by omega) w).mono (t := 241 * K) (u := 241 * (K + 1)) (by omega)
        obtain ⟨τ, a1, a2, a3, a4⟩ := d_push (u := x_u v 14 w) h1 h2 h3 h4 h5 h6 h7 hJ
        have g := x_hp_put τ 35 v (x_sc τ) (k := 14) (by decide) w
        rw [← at35 a2] at g
        obtain ⟨ν, b1, b2, b3⟩ := a4 (x_sc τ) (y_m0 μ lv) (y_sc μ) (y_m0.sm μ lv)
        rw [a1, x_b_s, F_X8_cloth_41, g, x_pt_s, x_gd_t isz, F_X9_turns_34, x_gd_t (by decide), x_pt_s, show x_ix (8 : Int32) = 8 by decide, z_put _ v _ 14 (k := 8) rfl (by decide) (by decide), b1, x_b_s, x_gd_t isz, x_b_s, x_gd_t isz]
        exact ⟨_, _, _, rfl, rfl, b3⟩
      rw [ite_self, F_X8_cloth_16, F_X9_turns_19]
      by_cases q : x = 0
      · simp only [if_pos q]; exact one 0
      · simp only [if_neg q]; exact one 1
    · exact Or.inr hs
  rw [F_X8_cloth, F_X9_cloth, F_X9_turns, z_take h1, x_b_s, x_gd_t (by decide), show x_ix (8 : Int32) = 8 by decide, h1.g (by decide), z_get _ v _ 14 (k := 8) rfl (by decide) (by decide)]
  by_cases q : v 14 = 1
  · rw [if_pos q, if_pos q]
    rcases key 1 with z | z
    · rw [ite_self] at z; exact z
    · exact absurd (Or.inr rfl) z
  · rw [if_neg q, if_neg q]
    rcases key 0 with z | z
    · rw [ite_self] at z; exact z
    · exact absurd (Or.inl rfl) z
theorem d_mother {K : Nat} {σ μ : x_Hp} (h : r_rel K σ μ) (x : Int32) : r_call (K + 1) (F_X8_mother x σ) (F_X9_mother x μ) := by
  obtain ⟨T, lv, N, v, ch, h1, h2, h3, h4, h5, h6, h7⟩ := id h
  have key : ∀ s : Int32, (s = 0 ∨ s = 1) → r_call (K + 1) (F_X8_mother_16 x s σ) (x_b (F_X9_turns_19 9 x s (z_hp (y_m0 μ lv) v (y_sc μ))) (fun v1 σ1 => x_gd (x_isz v1) (some (v1, σ1)))) := by
    intro s hs
    have isz : x_isz s = true := by rcases hs with rfl | rfl <;> decide
    have one : ∀ w : Int32, r_call (K + 1) (x_b (F_X7_note 35 σ) (fun _ σ1 => F_X8_mother_41 s w σ1)) (x_b (F_X9_turns_34 s w 9 (z_hp (y_m0 μ lv) v (y_sc μ))) (fun v1 σ1 => x_gd (x_isz v1) (some (v1, σ1)))) := by
      intro w
      have hJ := (h1.2.2.2.2.1.u (k := 8) (by omega) w).mono (t := 241 * K) (u := 241 * (K + 1)) (by omega)
      obtain ⟨τ, a1, a2, a3, a4⟩ := d_push (u := x_u v 8 w) h1 h2 h3 h4 h5 h6 h7 hJ
      have g := x_hp_put τ 35 v (x_sc τ) (k := 8) (by decide) w
      rw [← at35 a2] at g
      obtain ⟨ν, b1, b2, b3⟩ := a4 (x_sc τ) (y_m0 μ lv) (y_sc μ) (y_m0.sm μ lv)
      rw [a1, x_b_s, F_X8_mother_41, g, x_pt_s, x_gd_t isz, F_X9_turns_34, x_gd_t (by decide), x_pt_s, show x_ix (9 : Int32) = 9 by decide, z_put _ v _ 8 (k := 9) rfl (by decide) (by decide), b1, x_b_s, x_gd_t isz, x_b_s, x_gd_t isz]
      exact ⟨_, _, _, rfl, rfl, b3⟩
    rw [F_X8_mother_16, F_X9_turns_19]
    by_cases q : x = 0
    · simp only [if_pos q]; exact one 0
    · simp only [if_neg q]; exact one 1
  rw [F_X8_mother, F_X9_mother, F_X9_turns, z_take h1, x_b_s, x_gd_t (by decide), show x_ix (9 : Int32) = 9 by decide, h1.g (by decide), z_get _ v _ 8 (k := 9) rfl (by decide) (by decide)]
  by_cases q : v 8 = 1
  · rw [if_pos q, if_pos q]; exact key 1 (Or.inr rfl)
  · rw [if_neg q, if_neg q]; exact key 0 (Or.inl rfl)
/-- rows copied into what stands now, the reference's -/
theorem d_undo {K : Nat} {σ μ : x_Hp} (h : r_rel K σ μ) : r_call (K + 1) (F_X8_undo σ) (F_X9_undo μ) := by
  obtain ⟨T, lv, N, v, ch, h1, h2, h3, h4, h5, h6, h7⟩ := id h
  obtain ⟨len, b, u1, u2, u3, u4, u5, u6, u7⟩ := id h2
  rw [F_X8_undo, F_X7_giveBack, F_X9_undo, u3, u6]
  rcases Nat.eq_zero_or_pos len with z | z
  · subst z
    rw [if_pos (show nI 0 = 0 from rfl), if_pos (show nI 0 = 0 from rfl), x_b_s, x_gd_t (by decide)]; exact h.same _
  · have hi := Nat.mod_lt (b + 49) (show 0 < 50 by decide)
    generalize hib : (b + 49) % 50 = i at hi
    have ei : (b + 50 - len + (len - 1)) % 50 = i := by omega
    obtain ⟨p1, p2⟩ := u7 (len - 1) (by omega)
    rw [r_ix, ei] at p1 p2
    have hs : x_St (41 + 2 * i) := un_St i hi
    rw [if_neg (nI_ne0 z (by omega)), if_neg (nI_ne0 z (by omega)), x_pt_s, x_pt_s, x_pt_s, show (1 : Int32) = nI 1 from rfl, pk_sub z]
    -- the class
    have r2 : (x_pI (x_pI σ 39 1 (nI (len - 1))) 39 3 ((x_pI σ 39 1 (nI (len - 1))).1 39 3 + nI 1)).1 39 2 = nI b := by rw [x_pI_1, if_neg (by omega), x_pI_1, if_neg (by omega)]; exact u4
    have r3 : (x_pI σ 39 1 (nI (len - 1))).1 39 3 + nI 1 = nI (ch + 1) := by rw [x_pI_1, if_neg (by omega), u5, nI_add]
    rw [r2, r3]
    have e48 : (if nI b ≤ 0 then F_X7_giveBack_48 35 49 (x_pI (x_pI σ 39 1 (nI (len - 1))) 39 3 (nI (ch + 1))) else F_X7_giveBack_48 35 (nI b - nI 1) (x_pI (x_pI σ 39 1 (nI (len - 1))) 39 3 (nI (ch + 1)))) = F_X7_giveBack_48 35 (nI i) (x_pI (x_pI σ 39 1 (nI (len - 1))) 39 3 (nI (ch + 1))) := by
      rcases Nat.eq_zero_or_pos b with q | q
      · rw [if_pos (by rw [q]; decide)]; congr 1; rw [← hib, q]; decide
      · rw [if_neg (nI_nle q (by omega)), pk_sub q]; congr 2; omega
    rw [e48]
    have gst : x_gS (x_pI (x_pI (x_pI σ 39 1 (nI (len - 1))) 39 3 (nI (ch + 1))) 39 2 (nI i)) (41 + 2 * i) = x_gS σ (41 + 2 * i) := by
      rw [gS_pI _ _ _ (by omega) (by omega), gS_pI _ _ _ (by omega) (by omega), gS_pI _ _ _ (by omega) (by omega)]
    have ef := k_from x_St35 hs (by omega) (σ := x_pI (x_pI (x_pI σ 39 1 (nI (len - 1))) 39 3 (nI (ch + 1))) 39 2 (nI i)) (u := x_gS σ (41 + 2 * i)) (fun k _ => by rw [gst])
    have rr2 : (x_pI (x_pI (x_pI σ 39 1 (nI (len - 1))) 39 3 (nI (ch + 1))) 39 2 (nI i)).1 39 2 = nI i := by rw [x_pI_1, if_pos ⟨rfl, rfl⟩]
    rw [F_X7_giveBack_48, x_pt_s, rr2, if_neg (nI_pos (by omega)), if_neg (show ¬ (50 : Int32) ≤ nI i from nI_ge (b := 50) hi (by decide)), x_gd_t (x_inb_nI hi (by decide)), x_ix_nI (by omega), un_rf i hi, ef, x_b_s, x_b_s, x_gd_t (by decide)]
    -- the reference
    obtain ⟨n, e⟩ := y_fill0 (F := fun n i μ => F_X9_undo_21 n i μ) (r := 31) (b := 0) (L := 60) (by decide) (f := fun k => μ.1 34 (60 * (len - 1) + k)) (P := fun _ ν => (∀ k, ν.1 34 k = μ.1 34 k) ∧ ν.1 0 54 = nI (len - 1)) (fun i σ hi hp => ⟨fun k => by rw [x_pI_1, if_neg (by omega)]; exact hp.1 k, by rw [x_pI_1, if_neg (by omega)]; exact hp.2⟩) (fun n i σ hi hp => by
      have ix : (60 : Int32) * nI (len - 1) + nI i = nI (60 * (len - 1) + i) := by rw [show (60 : Int32) * nI (len - 1) = nI (60 * (len - 1)) from pk_mul 60 _, nI_add]
      rw [F_X9_undo_21, if_neg (show ¬ (60 : Int32) ≤ nI i from nI_ge (b := 60) hi (by decide)), hp.2, ix, x_gd_t (x_inb_nI (by omega) (by decide)), x_gd_t (x_inb_nI hi (by decide)), x_pt_s, x_ix_nI (by omega), x_ix_nI (by omega), hp.1, nI_1, Nat.zero_add]) (σ := x_pI μ 0 54 (nI (len - 1))) ⟨fun k => by rw [x_pI_1, if_neg (by omega)], by rw [x_pI_1, if_pos ⟨rfl, rfl⟩]⟩
    rw [e, F_X9_undo_21, if_pos (show (60 : Int32) ≤ nI 60 by decide)]
    have rx : ∀ a j, ¬ (a = 35 ∨ a = 36 ∨ a = 39) → a ≠ 13 → a ≠ 8 → (x_hp (x_pI (x_pI (x_pI σ 39 1 (nI (len - 1))) 39 3 (nI (ch + 1))) 39 2 (nI i)) 35 (x_gS σ (41 + 2 * i)) (x_sc (x_pI (x_pI (x_pI σ 39 1 (nI (len - 1))) 39 3 (nI (ch + 1))) 39 2 (nI i)))).1 a j = σ.1 a j := fun a j q1 q2 q3 => by
      rw [x_hp_oth _ _ _ _ _ (by omega) (by omega) q2 q3, x_pI_1, if_neg (by omega), x_pI_1, if_neg (by omega), x_pI_1, if_neg (by omega)]
    have r39 : ∀ j, (x_hp (x_pI (x_pI (x_pI σ 39 1 (nI (len - 1))) 39 3 (nI (ch + 1))) 39 2 (nI i)) 35 (x_gS σ (41 + 2 * i)) (x_sc (x_pI (x_pI (x_pI σ 39 1 (nI (len - 1))) 39 3 (nI (ch + 1))) 39 2 (nI i)))).1 39 j = (x_pI (x_pI (x_pI σ 39 1 (nI (len - 1))) 39 3 (nI (ch + 1))) 39 2 (nI i)).1 39 j := fun j => x_hp_oth _ _ _ _ _ (by decide) (by decide) (by decide) (by decide)
    have rz : ∀ a j, ¬ (a = 31 ∨ (a = 0 ∧ j = 54)) → (y_fl (x_pI μ 0 54 (nI (len - 1))) 31 0 60 (fun k => μ.1 34 (60 * (len - 1) + k)) 0).1 a j = μ.1 a j := fun a j q => by
      rw [y_fl_o _ _ _ _ _ (by omega), x_pI_1, if_neg (by omega)]
    have r31 : ∀ k, k < 60 → (y_fl (x_pI μ 0 54 (nI (len - 1))) 31 0 60 (fun k => μ.1 34 (60 * (len - 1) + k)) 0).1 31 k = y_rv (x_gS σ (41 + 2 * i)) k := fun k hk => by
      have := y_fl_in (x_pI μ 0 54 (nI (len - 1))) 31 0 60 (fun k => μ.1 34 (60 * (len - 1) + k)) hk
      rw [Nat.zero_add] at this
      rw [this]; exact p2 k hk
    refine ⟨1, _, _, rfl, rfl, T, lv, N, _, ch + 1, r_V.mk (h1.1.ag (fun a j q => rx a j (by omega) (by omega) (by omega))) (h1.2.1.agt ⟨rz _ _ (by omega), fun a j q1 q2 => rz a j (by omega)⟩) h1.2.2.1 (gS_hp x_St35 _ _ _) (p1.mono (by omega)) r31, ?_, by omega, ?_, ?_, ?_, ?_⟩
    · refine ⟨len - 1, i, by omega, hi, by rw [r39, x_pI_1, if_neg (by omega), x_pI_1, if_neg (by omega), x_pI_1, if_pos ⟨rfl, rfl⟩], by rw [r39, x_pI_1, if_pos ⟨rfl, rfl⟩], by rw [r39, x_pI_1, if_neg (by omega), x_pI_1, if_pos ⟨rfl, rfl⟩], by rw [y_fl_o _ _ _ _ _ (by omega), x_pI_1, if_pos ⟨rfl, rfl⟩], fun j hj => ?_⟩
      obtain ⟨g1, g2⟩ := u7 j (by omega)
      have e2 : (i + 50 - (len - 1) + j) % 50 = (b + 50 - len + j) % 50 := by omega
      have hj2 := Nat.mod_lt (b + 50 - len + j) (show 0 < 50 by decide)
      rw [r_ix, e2]
      rw [r_ix] at g1 g2
      rw [gS_ag (σ := σ) (41 + 2 * ((b + 50 - len + j) % 50)) (fun j => rx _ _ (by omega) (by omega) (by omega)) (fun j => rx _ _ (by omega) (by omega) (by omega))]
      exact ⟨g1.mono (by omega), fun k hk => by rw [rz _ _ (by omega)]; exact g2 k hk⟩
    · exact (h4.ag (fun a j q => rx a j (by omega) (by omega) (by omega)) (fun a j q => rz a j (by omega))).mono (by omega)
    · exact h5.ag (fun a j q => rx a j (by omega) (by omega) (by omega)) (fun a j q => rz a j (by omega))
    · exact h6.ag (fun a j q => rx a j (by omega) (by omega) (by omega)) (fun a j q => rz a j (by omega))
    · exact h7.nx (fun j => rx 143 j (by omega) (by decide) (by decide))
end D1
