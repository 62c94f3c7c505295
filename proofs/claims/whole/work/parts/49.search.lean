/-! THE SEARCH OF ALL ORDERS -/
def x_so (σ τ : x_Hp) : Prop := ∀ a b, ¬ (a = 13 ∨ (a = 8 ∧ b = 7) ∨ (143 ≤ a ∧ a ≤ 166)) → τ.1 a b = σ.1 a b
theorem x_so.rf (σ : x_Hp) : x_so σ σ := fun _ _ _ => rfl
theorem x_so.tr {σ τ υ : x_Hp} (h : x_so σ τ) (g : x_so τ υ) : x_so σ υ := fun a b n => (g a b n).trans (h a b n)
theorem x_sp.so {σ τ : x_Hp} (h : x_sp σ τ) : x_so σ τ := fun a b n => h a b (by omega)
theorem r_V.so {σ μ τ ν : x_Hp} {T : x_TT} {lv N t : Nat} {v : x_V} (h : r_V σ μ T lv N t v) (hs : x_so σ τ) (hm : y_sm μ ν) : r_V τ ν T lv N t v := by
  obtain ⟨h1, h2, h3, h4, h5, h6⟩ := h
  refine ⟨h1.ag (fun a b q => hs a b (by omega)), h2.agt hm.agt, h3, ?_, h5, fun k hk => ?_⟩
  · rw [← h4]
    funext k
    simp only [x_gS]
    rw [hs 35 _ (by omega), hs 36 _ (by omega)]
  · rw [hm 31 k (by unfold y_Sb; omega)]; exact h6 k hk
def O_R (τ κ : x_Hp) : Prop := ((τ.1 151 2 = 0 ∧ κ.1 0 61 < 0) ∨ (τ.1 151 2 = 1 ∧ ¬ κ.1 0 61 < 0 ∧ τ.1 151 1 = κ.1 0 61 ∧ ∀ k, k < 6 → τ.1 149 k = κ.1 38 k)) ∧ ((τ.1 152 2 = 0 ∧ κ.1 0 65 < 0) ∨ (τ.1 152 2 = 1 ∧ ¬ κ.1 0 65 < 0 ∧ τ.1 152 1 = κ.1 0 65 ∧ τ.1 152 0 = κ.1 0 66)) ∧ τ.1 143 9 = κ.1 0 63 ∧ ∀ k, k < 6 → τ.1 150 k = κ.1 39 k
def O_A (τ κ : x_Hp) : Prop := (τ.1 151 2 = 1 ∧ ¬ κ.1 0 61 < 0 ∧ τ.1 151 1 = κ.1 0 61 ∧ ∀ k, k < 6 → τ.1 149 k = κ.1 38 k) ∧ (τ.1 152 2 = 1 ∧ ¬ κ.1 0 65 < 0 ∧ τ.1 152 1 = κ.1 0 65 ∧ τ.1 152 0 = κ.1 0 66) ∧ τ.1 143 9 = κ.1 0 63 ∧ ∀ k, k < 6 → τ.1 150 k = κ.1 39 k
theorem O_A.r {τ κ : x_Hp} (h : O_A τ κ) : O_R τ κ := ⟨Or.inr h.1, Or.inr h.2.1, h.2.2.1, h.2.2.2⟩
theorem O_A.ag {τ κ τ' κ' : x_Hp} (h : O_A τ κ) (h1 : ∀ a b, (a = 143 ∧ b = 9) ∨ (149 ≤ a ∧ a ≤ 152) → τ'.1 a b = τ.1 a b) (h2 : ∀ a b, y_ch a b → κ'.1 a b = κ.1 a b) : O_A τ' κ' := by
  obtain ⟨⟨a1, a2, a3, a4⟩, ⟨b1, b2, b3, b4⟩, c, d⟩ := h
  refine ⟨⟨?_, ?_, ?_, fun k hk => ?_⟩, ⟨?_, ?_, ?_, ?_⟩, ?_, fun k hk => ?_⟩
  · rw [h1 _ _ (by omega)]; exact a1
  · rw [h2 _ _ (by unfold y_ch; omega)]; exact a2
  · rw [h1 _ _ (by omega), h2 _ _ (by unfold y_ch; omega)]; exact a3
  · rw [h1 _ _ (by omega), h2 _ _ (by unfold y_ch; omega)]; exact a4 k hk
  · rw [h1 _ _ (by omega)]; exact b1
  · rw [h2 _ _ (by unfold y_ch; omega)]; exact b2
  · rw [h1 _ _ (by omega), h2 _ _ (by unfold y_ch; omega)]; exact b3
  · rw [h1 _ _ (by omega), h2 _ _ (by unfold y_ch; omega)]; exact b4
  · rw [h1 _ _ (by omega), h2 _ _ (by unfold y_ch; omega)]; exact c
  · rw [h1 _ _ (by omega), h2 _ _ (by unfold y_ch; omega)]; exact d k hk
section L1
variable {T : x_TT} {lv N t m : Nat} {v : x_V}
theorem pre_ag {l l' : List Nat} {e : Nat} (h : ∀ k, k < e → n_at l' k = n_at l k) : ∀ d, d ≤ e → m_pre T m v l' d = m_pre T m v l d ∧ m_slp T m v l' d = m_slp T m v l d := by
  intro d
  induction d with
  | zero => intro _; exact ⟨rfl, rfl⟩
  | succ d ih =>
    intro hd
    obtain ⟨a, b⟩ := ih (by omega)
    rw [m_pre, m_pre, m_slp, m_slp, a, b, h d (by omega)]
    exact ⟨rfl, rfl⟩
theorem o_loop (h0 : 0 < N) (h13 : v 13 = nI 0) (ht : t < 2 ^ 29) (hm : m ≤ 10) : ∀ (f n n' i : Nat) (l : List Nat) (ch : Nat) (σ κ : x_Hp), n_chk N f l = true → i + f = 720 → f < n → f < n' → r_V σ κ T lv N t v → (∀ k, k < 6 → σ.1 148 k = nI (n_at l k)) → (∀ k, k < 6 → κ.1 37 k = nI (n_at l k)) → x_RW T m v l σ ch → ch ≤ N → O_R σ κ → ∃ τ ν, F_X3_search_38 n (nI m) (nI ch) (nI i) σ = some ((), τ) ∧ F_X9_fillsOrders_42 n' (nI m) 1 κ = some ((), ν) ∧ x_so σ τ ∧ (τ.1 143 10 = σ.1 143 10 ∧ τ.1 143 11 = σ.1 143 11) ∧ y_sm κ ν ∧ O_A τ ν := by
  intro f
  induction f with
  | zero => intro n n' i l ch σ κ hc; cases hc
  | succ f ih =>
    intro n n' i l ch σ κ hc h1 h2 h3 hV h148 h37 hR hch hO
    obtain ⟨n, rfl⟩ : ∃ m, n = m + 1 := ⟨n - 1, by omega⟩
    obtain ⟨n', rfl⟩ : ∃ m, n' = m + 1 := ⟨n' - 1, by omega⟩
    obtain ⟨n1, n6, n7⟩ := hV.n
    rw [n_chk, Bool.and_eq_true] at hc
    obtain ⟨hg, hc⟩ := hc
    have hok := pre_ok (m := m) hV h0 h13 hg hm
    -- the class
    obtain ⟨τ1, e1, hR1, sp1⟩ := c_path hg n6 hm (fun d hd => by
      obtain ⟨-, a, ⟨x, hx, ex⟩, -⟩ := hok d hd
      exact ⟨a, x, by omega, ex⟩) (F_X3_search_38 n) (nI i) (N - ch) x_fuel ch σ hV.1 n7 h148 hR (by omega) (by rw [x_fuel]; omega)
    obtain ⟨τ2, e2, g2, g9, g150, g152, g151⟩ := c_weigh (m := m) (v := v) h0 n6 (sp1.T hV.1) (by rw [sp1 1 7 (by omega)]; exact n1) (fun k hk => by rw [sp1 148 k (by omega)]; exact h148 k hk) hR1
    -- the reference
    have s0 : ∀ a b, a ≠ 0 ∨ 58 ≤ b → (y_s0 κ lv).1 a b = κ.1 a b := fun a b h => by
      rw [y_s0_o _ _ (by omega), y_m0]; exact y_set_o _ _ _ _ (by omega)
    obtain ⟨ν2, w2, e3, hT2, sy2, q57, q56, q35, q379, q58⟩ := y_all (T := T) (lv := lv) (N := N) (m := m) (v := v) (l := l) (μ := κ) (ν0 := y_s0 κ lv) hV.2.2.1 hg hm (fun k hk => by rw [s0 37 k (by omega)]; exact h37 k hk) N x_fuel 0 (y_s0 κ lv) (y_sc κ) (s0_T hV) (y_s0.sm κ lv) (y_s0_51 κ lv) (s0_G hV h0) h13 (by omega) (by rw [x_fuel]; omega) (y_s0_57 κ lv) (by rw [y_s0_56, m_pre, Int32.sub_self]) (fun k hk => absurd hk (Nat.not_lt_zero _)) (fun _ _ _ => rfl) (fun _ _ => rfl)
    have hz : ∀ a b, a ≠ 29 → a ≠ 30 → a ≠ 32 → a ≠ 33 → (a ≠ 0 ∨ b ≠ 47) → (z_hp ν2 (m_pre T m v l N) w2).1 a b = ν2.1 a b := fun a b p1 p2 p3 p4 p5 => z_oth _ _ _ _ p3 p1 p2 p4 p5
    have hk0 : ∀ b, 58 ≤ b → (z_hp ν2 (m_pre T m v l N) w2).1 0 b = κ.1 0 b := fun b hb => by rw [hz _ _ (by decide) (by decide) (by decide) (by decide) (by omega), q58 b hb, s0 0 b (by omega)]
    have hk3 : ∀ a b, 37 ≤ a ∧ a ≤ 39 → (z_hp ν2 (m_pre T m v l N) w2).1 a b = κ.1 a b := fun a b hab => by rw [hz _ _ (by omega) (by omega) (by omega) (by omega) (by omega), q379 a b hab, s0 a b (by omega)]
    have sy3 : y_sm κ (z_hp ν2 (m_pre T m v l N) w2) := sy2.tr (y_sm.hp _ _ _)
    have hT3 : y_Tx (z_hp ν2 (m_pre T m v l N) w2) T lv N := hV.2.1.agt sy3.agt
    obtain ⟨κ', e4, c1, c63, c39, c65, c61⟩ := y_weigh (m := m) (v := v) (κ := z_hp ν2 (m_pre T m v l N) w2) h0 hT3 hV.2.2.1 hg (fun k hk => by rw [hk3 37 k (by omega)]; exact h37 k hk) (by rw [hz _ _ (by decide) (by decide) (by decide) (by decide) (by omega)]; exact q57) (by rw [hz _ _ (by decide) (by decide) (by decide) (by decide) (by omega), q56, m_sm_sh hg n6]) (fun a ha => by rw [hz _ _ (by decide) (by decide) (by decide) (by decide) (by omega), hz _ _ (by decide) (by decide) (by decide) (by decide) (by omega)]; exact q35 a ha) (F_X9_fillsOrders_42 n') (nI m)
    rw [hk0 63 (by decide)] at c63
    rw [hk0 65 (by decide), hk0 66 (by decide)] at c65
    rw [hk0 61 (by decide)] at c61
    have c39' : ∀ k, κ'.1 39 k = if k = m_luk (m_sh T N m v l 1) N 0 0 then κ.1 39 k + 1 else κ.1 39 k := fun k => by rw [c39, hk3 39 k (by omega)]
    have t1 : ∀ a b, 143 ≤ a → a ≤ 152 → a ≠ 145 → τ1.1 a b = σ.1 a b := fun a b p1 p2 p3 => sp1 a b (by omega)
    rw [t1 143 9 (by decide) (by decide) (by decide)] at g9
    have g150' : ∀ k, τ2.1 150 k = if k = m_luk (m_sh T N m v l 1) N 0 0 then σ.1 150 k + 1 else σ.1 150 k := fun k => by rw [g150, t1 150 k (by decide) (by decide) (by decide)]
    rw [t1 152 2 (by decide) (by decide) (by decide), t1 152 1 (by decide) (by decide) (by decide)] at g152
    rw [t1 151 2 (by decide) (by decide) (by decide), t1 151 1 (by decide) (by decide) (by decide)] at g151
    -- the numbers are none below 0
    obtain ⟨-, -, -, s, hs, es⟩ := hok N (Nat.le_refl _)
    have hsm : m_sm (m_sh T N m v l 1) N 0 0 = nI s := by rw [m_sm_sh hg n6, es, x_sub_l]
    have hm61 : m * 61 ≤ 610 := by omega
    obtain ⟨x0, hx0, ex0⟩ := sh_laugh (T := T) (m := m) (v := v) hg n6 h0
    obtain ⟨x', y', hxy, hx', ex', ey'⟩ := m_apart (L := m_sh T N m v l 2) (B := 610) (N := N) (by decide) (fun a ha => by
      obtain ⟨x, hx, ex⟩ := sh_laugh (T := T) (m := m) (v := v) hg n6 ha
      exact ⟨x, by omega, ex⟩) N 0 x0 x0 (by omega) (Nat.le_refl _) (by omega)
    rw [← ex0] at ex' ey'
    have hap : m_tp (m_sh T N m v l 2) N 0 (m_sh T N m v l 2 0) - m_lw (m_sh T N m v l 2) N 0 (m_sh T N m v l 2 0) = nI (x' - y') := by rw [ex', ey', pk_sub hxy]
    rw [hsm] at g151 c61
    rw [hap] at g152 c65
    have hA : O_A τ2 κ' := by
      obtain ⟨o1, o2, o3, o4⟩ := hO
      refine ⟨?_, ?_, ?_, fun k hk => ?_⟩
      · rcases o1 with ⟨p, q⟩ | ⟨p, q, r, z⟩
        · rw [if_pos (Or.inl p)] at g151
          rw [if_pos (Or.inl q)] at c61
          refine ⟨g151.2.1, by rw [c61.1]; exact nI_pos (by omega), by rw [g151.1, c61.1], fun k hk => ?_⟩
          rw [g151.2.2 k hk, c61.2 k hk, sp1 148 k (by omega), h148 k hk, hk3 37 k (by omega), h37 k hk]
        · by_cases hc2 : ¬ σ.1 151 1 ≤ nI s
          · rw [if_pos (Or.inr hc2)] at g151
            rw [if_pos (Or.inr (by rw [← r]; exact hc2))] at c61
            refine ⟨g151.2.1, by rw [c61.1]; exact nI_pos (by omega), by rw [g151.1, c61.1], fun k hk => ?_⟩
            rw [g151.2.2 k hk, c61.2 k hk, sp1 148 k (by omega), h148 k hk, hk3 37 k (by omega), h37 k hk]
          · rw [if_neg (by rintro (a | a); (rw [p] at a; exact absurd a (by decide)); exact hc2 a)] at g151
            rw [if_neg (by rintro (a | a); exact q a; (rw [← r] at a; exact hc2 a))] at c61
            refine ⟨by rw [g151.1, t1 151 2 (by decide) (by decide) (by decide)]; exact p, by rw [c61.1]; exact q, by rw [g151.1, c61.1, t1 151 1 (by decide) (by decide) (by decide)]; exact r, fun k hk => ?_⟩
            rw [g151.2, c61.2, t1 149 k (by decide) (by decide) (by decide), hk3 38 k (by omega)]; exact z k hk
      · rcases o2 with ⟨p, q⟩ | ⟨p, q, r, z⟩
        · rw [if_pos (Or.inl p)] at g152
          rw [if_pos (Or.inl q)] at c65
          exact ⟨g152.2.2, by rw [c65.2]; exact nI_pos (by omega), by rw [g152.2.1, c65.2], by rw [g152.1, c65.1]⟩
        · by_cases hc2 : ¬ σ.1 152 1 ≤ nI (x' - y')
          · rw [if_pos (Or.inr hc2)] at g152
            rw [if_pos (Or.inr (by rw [← r]; exact hc2))] at c65
            exact ⟨g152.2.2, by rw [c65.2]; exact nI_pos (by omega), by rw [g152.2.1, c65.2], by rw [g152.1, c65.1]⟩
          · rw [if_neg (by rintro (a | a); (rw [p] at a; exact absurd a (by decide)); exact hc2 a)] at g152
            rw [if_neg (by rintro (a | a); exact q a; (rw [← r] at a; exact hc2 a))] at c65
            refine ⟨by rw [g152, t1 152 2 (by decide) (by decide) (by decide)]; exact p, by rw [c65.2]; exact q, by rw [g152, c65.2, t1 152 1 (by decide) (by decide) (by decide)]; exact r, by rw [g152, c65.1, t1 152 0 (by decide) (by decide) (by decide)]; exact z⟩
      · rw [g9, c63, o3]
      · rw [g150', c39', o4 k hk]
    have so2 : x_so σ τ2 := fun a b hab => by rw [g2 a b (by omega)]; exact sp1 a b (by omega)
    have sy4 : y_sm κ κ' := fun a b hab => by rw [c1 a b (by unfold y_Sb at hab; unfold y_ch; omega)]; exact sy3 a b hab
    have l2 : ∀ k, k < 6 → τ2.1 148 k = nI (n_at l k) := fun k hk => by rw [g2 148 k (by omega), sp1 148 k (by omega)]; exact h148 k hk
    have l3 : ∀ k, k < 6 → κ'.1 37 k = nI (n_at l k) := fun k hk => by rw [c1 37 k (by unfold y_ch; omega), hk3 37 k (by omega)]; exact h37 k hk
    have hcl : F_X3_search_38 (n + 1) (nI m) (nI ch) (nI i) σ = x_b (F_X3_follow τ2) (fun v5 σ5 => F_X3_search_38 n (nI m) v5 (nI (i + 1)) σ5) := by
      rw [F_X3_search_38, if_neg (show ¬ (720 : Int32) ≤ nI i from nI_ge (b := 720) (by omega) (by decide)), if_neg (nI_pos (by omega)), e1, e2, x_b_s, nI_1]
    have hrf : F_X9_fillsOrders_42 (n' + 1) (nI m) 1 κ = x_b (F_X9_nextOrder κ') (fun v22 σ22 => F_X9_fillsOrders_42 n' (nI m) v22 σ22) := by
      have e3' : F_X9_givesAll_6 x_fuel (nI m) 0 (z_hp (y_s0 κ lv) v (y_sc κ)) = some ((), z_hp ν2 (m_pre T m v l N) w2) := e3
      rw [F_X9_fillsOrders_42, if_neg (by decide), F_X9_givesAll, z_starts hV, x_b_s, e3', x_b_s, e4, F_X9_fillsOrders_189]
    rw [hcl, hrf]
    have hl6 := n_good_len hg
    rcases c_follow h0 n6 hl6 (fun k hk => n_good_6 hg hk) τ2 (by rw [so2 1 7 (by omega)]; exact n1) with ⟨hn, ef⟩ | ⟨i', l', hn, hi', hl', ef⟩
    · rw [← o_of 148 τ2 l l2] at ef
      have yf := (y_follow h0 n6 hl6 (fun k hk => n_good_6 hg hk) κ' hT3.1 (by rw [sy4 0 18 (by unfold y_Sb; omega)]; exact hV.2.1.2.2.1) (by rw [sy4 10 lv (by unfold y_Sb; omega)]; exact hV.2.1.2.2.2.2.1)).1 hn
      rw [← o_of 37 κ' l l3] at yf
      rw [ef, x_b_s, yf, x_b_s]
      obtain ⟨n, rfl⟩ : ∃ m, n = m + 1 := ⟨n - 1, by omega⟩
      obtain ⟨n', rfl⟩ : ∃ m, n' = m + 1 := ⟨n' - 1, by omega⟩
      refine ⟨τ2, κ', ?_, ?_, so2, ⟨?_, ?_⟩, sy4, hA⟩
      · rw [F_X3_search_38]
        split
        · rfl
        · rw [if_pos (by decide)]
      · rw [F_X9_fillsOrders_42, if_pos rfl]
      · rw [g2 _ _ (by omega), sp1 _ _ (by omega)]
      · rw [g2 _ _ (by omega), sp1 _ _ (by omega)]
    · have ef' : F_X3_follow τ2 = some (nI i', o_hp 148 τ2 l') := by
        have := ef
        rw [← o_of 148 τ2 l l2] at this
        exact this
      have yf := (y_follow h0 n6 hl6 (fun k hk => n_good_6 hg hk) κ' hT3.1 (by rw [sy4 0 18 (by unfold y_Sb; omega)]; exact hV.2.1.2.2.1) (by rw [sy4 10 lv (by unfold y_Sb; omega)]; exact hV.2.1.2.2.2.2.1)).2 i' l' hn
      have yf' : F_X9_nextOrder κ' = some (1, o_hp 37 κ' l') := by
        have := yf
        rw [← o_of 37 κ' l l3] at this
        exact this
      rw [ef', x_b_s, yf', x_b_s]
      rw [hn] at hc
      simp only [Bool.and_eq_true] at hc
      obtain ⟨hp, hc⟩ := hc
      have hag : ∀ k, k < i' → n_at l' k = n_at l k := fun k hk => by
        have := n_6 hp (k := k) (by omega)
        rw [n_blt.mpr hk, Bool.not_true, Bool.false_or] at this
        exact Nat.eq_of_beq_eq_true this
      have so3 : x_so σ (o_hp 148 τ2 l') := fun a b hab => by rw [o_oth _ _ _ _ (by omega)]; exact so2 a b hab
      have sy5 : y_sm κ (o_hp 37 κ' l') := fun a b hab => by rw [o_oth _ _ _ _ (by unfold y_Sb at hab; omega)]; exact sy4 a b hab
      have hR2 : x_RW T m v l' (o_hp 148 τ2 l') i' := by
        intro d hd
        obtain ⟨r1, r2⟩ := hR1 d (by omega)
        obtain ⟨a1, a2⟩ := pre_ag (T := T) (m := m) (v := v) hag d hd
        rw [a1, a2]
        refine ⟨fun k hk => ?_, ?_⟩
        · rw [← r1 k hk]
          simp only [x_gS]
          rw [o_oth _ _ _ _ (by omega), o_oth _ _ _ _ (by omega), g2 _ _ (by omega), g2 _ _ (by omega)]
        · rw [o_oth _ _ _ _ (by omega), g2 _ _ (by omega)]; exact r2
      have hA2 : O_A (o_hp 148 τ2 l') (o_hp 37 κ' l') := hA.ag (fun a b h => o_oth _ _ _ _ (by omega)) (fun a b h => o_oth _ _ _ _ (by unfold y_ch at h; omega))
      obtain ⟨τ, ν, j1, j2, j3, j4, j5, j6⟩ := ih n n' (i + 1) l' i' (o_hp 148 τ2 l') (o_hp 37 κ' l') hc (by omega) (by omega) (by omega) (hV.so so3 sy5) (fun k hk => o_at _ _ _ hk) (fun k hk => o_at _ _ _ hk) hR2 (by omega) hA2.r
      refine ⟨τ, ν, j1, j2, so3.tr j3, ?_, sy5.tr j5, j6⟩
      rw [j4.1, j4.2, o_oth _ _ _ _ (by omega), o_oth _ _ _ _ (by omega), g2 _ _ (by omega), g2 _ _ (by omega), sp1 _ _ (by omega), sp1 _ _ (by omega)]
      exact ⟨rfl, rfl⟩
/-! the search begins -/
theorem c_ob (d : Nat) : ∀ (f i : Nat) (σ : x_Hp), i + d = 6 → d < f → ∃ τ, F_X3_begin_21 f (nI i) σ = some ((), τ) ∧ (∀ k, i ≤ k → k < 6 → τ.1 148 k = nI k ∧ τ.1 150 k = 0) ∧ (∀ k, k < i → τ.1 148 k = σ.1 148 k ∧ τ.1 150 k = σ.1 150 k) ∧ τ.1 151 2 = 0 ∧ τ.1 152 2 = 0 ∧ τ.1 143 9 = 0 ∧ ∀ a b, ¬ (a = 148 ∨ a = 150 ∨ a = 151 ∨ a = 152 ∨ (a = 143 ∧ b = 9)) → τ.1 a b = σ.1 a b := by
  induction d with
  | zero =>
    intro f i σ h1 h2
    obtain ⟨f, rfl⟩ : ∃ m, f = m + 1 := ⟨f - 1, by omega⟩
    have : i = 6 := by omega
    subst this
    have e : ∀ (o : Nat) (σ : x_Hp), F_X2_begin o σ = some ((), x_pI (x_pI (x_pI σ o 2 0) o 0 0) o 1 0) := fun _ _ => rfl
    refine ⟨x_pI (x_pI (x_pI (x_pI (x_pI (x_pI (x_pI σ 151 2 0) 151 0 0) 151 1 0) 152 2 0) 152 0 0) 152 1 0) 143 9 0, ?_, fun k h1 h2 => by omega, fun k hk => ⟨?_, ?_⟩, ?_, ?_, ?_, fun a b h => ?_⟩
    · rw [F_X3_begin_21, if_pos (show (6 : Int32) ≤ nI 6 by decide), e, x_b_s, e, x_b_s, x_pt_s]
    · simp only [x_pI_1]; simp
    · simp only [x_pI_1]; simp
    · simp only [x_pI_1]; simp
    · simp only [x_pI_1]; simp
    · simp only [x_pI_1]; simp
    · simp only [x_pI_1]
      rw [if_neg (by omega), if_neg (by omega), if_neg (by omega), if_neg (by omega), if_neg (by omega), if_neg (by omega), if_neg (by omega)]
  | succ d ih =>
    intro f i σ h1 h2
    obtain ⟨f, rfl⟩ : ∃ m, f = m + 1 := ⟨f - 1, by omega⟩
    obtain ⟨τ, a1, a2, a3, a4, a5, a6, a7⟩ := ih f (i + 1) (x_pI (x_pI σ 148 i (nI i)) 150 i 0) (by omega) (by omega)
    refine ⟨τ, ?_, fun k hk1 hk2 => ?_, fun k hk => ?_, a4, a5, a6, fun a b h => ?_⟩
    · rw [F_X3_begin_21, if_neg (show ¬ (6 : Int32) ≤ nI i from nI_ge (b := 6) (by omega) (by decide)), e_put, x_b_s, x_pT_nI _ _ (by rw [lnX_148]; omega), e_put, x_b_s, x_pT_nI _ _ (by rw [lnX_150]; omega), nI_1, a1]
    · by_cases q : k = i
      · subst q
        obtain ⟨b1, b2⟩ := a3 k (by omega)
        rw [b1, b2, x_pI_1, if_neg (by omega), x_pI_1, if_pos ⟨rfl, rfl⟩, x_pI_1, if_pos ⟨rfl, rfl⟩]
        exact ⟨rfl, rfl⟩
      · exact a2 k (by omega) hk2
    · obtain ⟨b1, b2⟩ := a3 k (by omega)
      rw [b1, b2, x_pI_1, if_neg (by omega), x_pI_1, if_neg (by omega), x_pI_1, if_neg (by omega), x_pI_1, if_neg (by omega)]
      exact ⟨rfl, rfl⟩
    · rw [a7 a b h, x_pI_1, if_neg (by omega), x_pI_1, if_neg (by omega)]
theorem y_ob (d : Nat) : ∀ (f i : Nat) (x1 : Int32) (μ : x_Hp), i + d = 6 → d < f → ∃ ν, F_X9_fillsOrders_21 f x1 (nI i) μ = F_X9_fillsOrders_42 x_fuel x1 1 ν ∧ (∀ k, i ≤ k → k < 6 → ν.1 39 k = 0) ∧ (∀ k, k < i → ν.1 39 k = μ.1 39 k) ∧ ∀ a b, a ≠ 39 → ν.1 a b = μ.1 a b := by
  induction d with
  | zero =>
    intro f i x1 μ h1 h2
    obtain ⟨f, rfl⟩ : ∃ m, f = m + 1 := ⟨f - 1, by omega⟩
    have : i = 6 := by omega
    subst this
    refine ⟨μ, ?_, fun k h1 h2 => by omega, fun _ _ => rfl, fun _ _ _ => rfl⟩
    rw [F_X9_fillsOrders_21, if_pos (show (6 : Int32) ≤ nI 6 by decide)]
  | succ d ih =>
    intro f i x1 μ h1 h2
    obtain ⟨f, rfl⟩ : ∃ m, f = m + 1 := ⟨f - 1, by omega⟩
    obtain ⟨ν, a1, a2, a3, a4⟩ := ih f (i + 1) x1 (x_pI μ 39 i 0) (by omega) (by omega)
    refine ⟨ν, ?_, fun k hk1 hk2 => ?_, fun k hk => ?_, fun a b h => ?_⟩
    · rw [F_X9_fillsOrders_21, if_neg (show ¬ (6 : Int32) ≤ nI i from nI_ge (b := 6) (by omega) (by decide)), x_gd_t (x_inb_nI (by omega) (by decide)), x_pt_s, x_ix_nI (by omega), nI_1, a1]
    · by_cases q : k = i
      · subst q; rw [a3 k (by omega), x_pI_1, if_pos ⟨rfl, rfl⟩]
      · exact a2 k (by omega) hk2
    · rw [a3 k (by omega), x_pI_1, if_neg (by omega)]
    · rw [a4 a b h, x_pI_1, if_neg (by omega)]
theorem y_first (d : Nat) : ∀ (f i : Nat) (μ : x_Hp), i + d = 6 → d < f → ∃ ν, F_X9_firstOrder_2 f (nI i) μ = some ((), ν) ∧ (∀ k, i ≤ k → k < 6 → ν.1 37 k = nI k) ∧ (∀ k, k < i → ν.1 37 k = μ.1 37 k) ∧ ∀ a b, a ≠ 37 → ν.1 a b = μ.1 a b := by
  induction d with
  | zero =>
    intro f i μ h1 h2
    obtain ⟨f, rfl⟩ : ∃ m, f = m + 1 := ⟨f - 1, by omega⟩
    have : i = 6 := by omega
    subst this
    refine ⟨μ, ?_, fun k h1 h2 => by omega, fun _ _ => rfl, fun _ _ _ => rfl⟩
    rw [F_X9_firstOrder_2, if_pos (show (6 : Int32) ≤ nI 6 by decide)]
  | succ d ih =>
    intro f i μ h1 h2
    obtain ⟨f, rfl⟩ : ∃ m, f = m + 1 := ⟨f - 1, by omega⟩
    obtain ⟨ν, a1, a2, a3, a4⟩ := ih f (i + 1) (x_pI μ 37 i (nI i)) (by omega) (by omega)
    refine ⟨ν, ?_, fun k hk1 hk2 => ?_, fun k hk => ?_, fun a b h => ?_⟩
    · rw [F_X9_firstOrder_2, if_neg (show ¬ (6 : Int32) ≤ nI i from nI_ge (b := 6) (by omega) (by decide)), x_gd_t (x_inb_nI (by omega) (by decide)), x_pt_s, x_ix_nI (by omega), nI_1, a1]
    · by_cases q : k = i
      · subst q; rw [a3 k (by omega), x_pI_1, if_pos ⟨rfl, rfl⟩]
      · exact a2 k (by omega) hk2
    · rw [a3 k (by omega), x_pI_1, if_neg (by omega)]
    · rw [a4 a b h, x_pI_1, if_neg (by omega)]
theorem n_r6_at : ∀ k, k < 6 → n_at n_r6 k = k := by decide
theorem o_search {σ μ : x_Hp} (hV : r_V σ μ T lv N t v) (h0 : 0 < N) (h13 : v 13 = nI 0) (ht : t < 2 ^ 29) (hm : m ≤ 10) (c : Int32) : ∃ τ ν, F_X3_search_17 35 (nI m) c σ = some ((), τ) ∧ F_X9_fillsOrders (nI m) μ = some ((), ν) ∧ x_so σ τ ∧ (τ.1 143 10 = nI m ∧ τ.1 143 11 = c) ∧ y_sm μ ν ∧ O_A τ ν := by
  obtain ⟨n1, n6, n7⟩ := hV.n
  -- the class
  have s2 : x_so σ (x_pI (x_pI σ 143 10 (nI m)) 143 11 c) := fun a b hab => by rw [x_pI_1, if_neg (by omega), x_pI_1, if_neg (by omega)]
  have hV2 := hV.so s2 (y_sm.rf μ)
  have hr0 : F_X3_row (0 : Int32) (x_pI (x_pI σ 143 10 (nI m)) 143 11 c) = some (153, x_pI (x_pI σ 143 10 (nI m)) 143 11 c) := c_row (d := 0) (by decide) _
  have hSt : x_St 153 := ro_St 0 (by decide)
  have ef := k_from hSt x_St35 (by decide) (σ := x_pI (x_pI σ 143 10 (nI m)) 143 11 c) (u := v) (fun k _ => by rw [hV2.2.2.2.1])
  have e145 : ∀ ρ : x_Hp, F_X8_put 145 (0 : Int32) (-2) ρ = some ((), x_pI ρ 145 0 (-2)) := fun ρ => by
    rw [e_put, show (0 : Int32) = nI 0 from rfl, x_pT_nI _ _ (by rw [lnX_145]; decide)]
  generalize hρ : x_pI (x_pI σ 143 10 (nI m)) 143 11 c = ρ at *
  obtain ⟨τ0, a1, a2, -, a4, a5, a6, a7⟩ := c_ob 6 x_fuel 0 (x_pI (x_hp ρ 153 v (x_sc ρ)) 145 0 (-2)) (by omega) (by decide)
  have a1' : F_X3_begin_21 x_fuel 0 (x_pI (x_hp ρ 153 v (x_sc ρ)) 145 0 (-2)) = some ((), τ0) := a1
  have sτ : x_so ρ τ0 := fun a b hab => by
    rw [a7 a b (by omega), x_pI_1, if_neg (by omega)]
    exact x_sp.hp ρ (d := 0) (by decide) v (x_sc ρ) a b (by omega)
  have ec : F_X3_search_17 35 (nI m) c σ = F_X3_search_38 x_fuel (nI m) (nI 0) (nI 0) τ0 := by
    rw [F_X3_search_17, x_pt_s, x_pt_s, hρ, F_X3_begin, hr0, x_b_s, ef, x_b_s, e145, x_b_s, a1', x_b_s]; rfl
  -- the reference
  obtain ⟨ν0, b1, b2, -, b4⟩ := y_first 6 x_fuel 0 μ (by omega) (by decide)
  have b1' : F_X9_firstOrder μ = some ((), ν0) := b1
  obtain ⟨ν1, d1, d2, -, d4⟩ := y_ob 6 x_fuel 0 (nI m) (x_pI (x_pI (x_pI ν0 0 61 (-1)) 0 65 (-1)) 0 63 0) (by omega) (by decide)
  have d1' : F_X9_fillsOrders_21 x_fuel (nI m) 0 (x_pI (x_pI (x_pI ν0 0 61 (-1)) 0 65 (-1)) 0 63 0) = F_X9_fillsOrders_42 x_fuel (nI m) 1 ν1 := d1
  have er : F_X9_fillsOrders (nI m) μ = F_X9_fillsOrders_42 x_fuel (nI m) 1 ν1 := by
    rw [F_X9_fillsOrders, b1', x_b_s, x_pt_s, x_pt_s, x_pt_s, d1']
  have sν : y_sm μ ν1 := fun a b hab => by
    unfold y_Sb at hab
    rw [d4 a b (by omega), x_pI_1, if_neg (by omega), x_pI_1, if_neg (by omega), x_pI_1, if_neg (by omega), b4 a b (by omega)]
  have hV3 := hV2.so sτ sν
  have hO : O_R τ0 ν1 := by
    refine ⟨Or.inl ⟨a4, ?_⟩, Or.inl ⟨a5, ?_⟩, ?_, fun k hk => ?_⟩
    · rw [d4 _ _ (by decide), x_pI_1, if_neg (by omega), x_pI_1, if_neg (by omega), x_pI_1, if_pos ⟨rfl, rfl⟩]; decide
    · rw [d4 _ _ (by decide), x_pI_1, if_neg (by omega), x_pI_1, if_pos ⟨rfl, rfl⟩]; decide
    · rw [a6, d4 _ _ (by decide), x_pI_1, if_pos ⟨rfl, rfl⟩]
    · rw [(a2 k (by omega) hk).2, d2 k (by omega) hk]
  obtain ⟨τ, ν, j1, j2, j3, j4, j5, j6⟩ := o_loop (m := m) h0 h13 ht hm 720 x_fuel x_fuel 0 n_r6 0 τ0 ν1 (n_chkN h0 n6) (by omega) (by decide) (by decide) hV3 (fun k hk => by rw [(a2 k (by omega) hk).1, n_r6_at k hk]) (fun k hk => by rw [d4 _ _ (by decide), x_pI_1, if_neg (by omega), x_pI_1, if_neg (by omega), x_pI_1, if_neg (by omega), b2 k (by omega) hk, n_r6_at k hk]) (fun d hd => by
    have : d = 0 := by omega
    subst this
    refine ⟨fun k hk => ?_, ?_⟩
    · have := gS_hp hSt ρ v (x_sc ρ) k hk
      show x_gS τ0 153 k = v k
      rw [← this]
      have hA : ∀ b, τ0.1 153 b = (x_hp ρ 153 v (x_sc ρ)).1 153 b := fun b => by rw [a7 153 b (by omega), x_pI_1, if_neg (by omega)]
      have hB : ∀ b, τ0.1 (153 + 1) b = (x_hp ρ 153 v (x_sc ρ)).1 (153 + 1) b := fun b => by rw [a7 (153 + 1) b (by omega), x_pI_1, if_neg (by omega)]
      show (if k < 20 then τ0.1 153 k else τ0.1 (153 + 1) (k - 20)) = (if k < 20 then (x_hp ρ 153 v (x_sc ρ)).1 153 k else (x_hp ρ 153 v (x_sc ρ)).1 (153 + 1) (k - 20))
      rw [hA, hB]
    · rw [a7 145 _ (by omega), x_pI_1, if_pos ⟨rfl, rfl⟩]; rfl) (by omega) hO
  refine ⟨τ, ν, by rw [ec, j1], by rw [er, j2], (s2.tr sτ).tr j3, ?_, sν.tr j5, j6⟩
  rw [j4.1, j4.2, a7 _ _ (by omega), a7 _ _ (by omega), x_pI_1, if_neg (by omega), x_pI_1, if_neg (by omega), x_hp_oth _ _ _ _ _ (by decide) (by decide) (by decide) (by decide), x_hp_oth _ _ _ _ _ (by decide) (by decide) (by decide) (by decide), ← hρ, x_pI_1, if_neg (by omega), x_pI_1, if_pos ⟨rfl, rfl⟩, x_pI_1, if_pos ⟨rfl, rfl⟩]
  exact ⟨rfl, rfl⟩
end L1
