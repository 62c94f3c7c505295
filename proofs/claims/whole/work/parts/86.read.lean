/-! READING, WHOLE: both have taken the text, or both have a fault -/
theorem c_r51 (v : Int32) : ∀ (d i f : Nat) (σ : x_Hp), i + d = 3 → d < f → (∀ k, k < i → σ.1 142 k = 0) → ∃ τ, F_X8_read_51 f v (nI i) σ = some (v, τ) ∧ (∀ k, k < 3 → τ.1 142 k = 0) ∧ (∀ a b, a ≠ 142 → τ.1 a b = σ.1 a b)
  | 0, i, f, σ, hi, hf, h => by
    obtain ⟨f, rfl⟩ := Nat.exists_eq_succ_of_ne_zero (show f ≠ 0 by omega)
    have : i = 3 := by omega
    subst this
    exact ⟨σ, by rw [F_X8_read_51, if_pos (show (3 : Int32) ≤ nI 3 by decide)], h, fun _ _ _ => rfl⟩
  | d + 1, i, f, σ, hi, hf, h => by
    obtain ⟨f, rfl⟩ := Nat.exists_eq_succ_of_ne_zero (show f ≠ 0 by omega)
    obtain ⟨τ, r1, r2, r3⟩ := c_r51 v d (i + 1) f (x_pI σ 142 i 0) (by omega) (by omega) (fun k hk => by
      by_cases q : k = i
      · subst q; rw [x_pI_1, if_pos ⟨rfl, rfl⟩]
      · rw [x_pI_1, if_neg (by omega)]; exact h k (by omega))
    refine ⟨τ, ?_, r2, fun a b q => ?_⟩
    · rw [F_X8_read_51, if_neg (show ¬ (3 : Int32) ≤ nI i from nI_ge (b := 3) (by omega) (by decide)), e_put, x_b_s, x_pT_nI _ _ (by rw [lnX_142]; omega), nI_1, r1]
    · rw [r3 a b q, x_pI_1, if_neg (by omega)]
theorem y_r219 : ∀ (d i f : Nat) (σ : x_Hp), i + d = 3 → d < f → (∀ k, k < i → σ.1 43 k = 0) → ∃ τ, F_X9_read_219 f (nI i) σ = some (0, τ) ∧ (∀ k, k < 3 → τ.1 43 k = 0) ∧ (∀ a b, a ≠ 43 → τ.1 a b = σ.1 a b) ∧ ∀ a b, τ.2 a b = σ.2 a b
  | 0, i, f, σ, hi, hf, h => by
    obtain ⟨f, rfl⟩ := Nat.exists_eq_succ_of_ne_zero (show f ≠ 0 by omega)
    have : i = 3 := by omega
    subst this
    exact ⟨σ, by rw [F_X9_read_219, if_pos (show (3 : Int32) ≤ nI 3 by decide)], h, fun _ _ _ => rfl, fun _ _ => rfl⟩
  | d + 1, i, f, σ, hi, hf, h => by
    obtain ⟨f, rfl⟩ := Nat.exists_eq_succ_of_ne_zero (show f ≠ 0 by omega)
    have nz : vp_nar .boolean (0 : Int32) = 0 := by decide
    obtain ⟨τ, r1, r2, r3, r4⟩ := y_r219 d (i + 1) f (x_pI σ 43 i 0) (by omega) (by omega) (fun k hk => by
      by_cases q : k = i
      · subst q; rw [x_pI_1, if_pos ⟨rfl, rfl⟩]
      · rw [x_pI_1, if_neg (by omega)]; exact h k (by omega))
    refine ⟨τ, ?_, r2, fun a b q => ?_, fun a b => by rw [r4]; rfl⟩
    · rw [F_X9_read_219, if_neg (show ¬ (3 : Int32) ≤ nI i from nI_ge (b := 3) (by omega) (by decide)), x_gd_t (x_inb_nI (by omega) (by decide)), x_pt_s, nz, x_ix_nI (by omega), nI_1, r1]
    · rw [r3 a b q, x_pI_1, if_neg (by omega)]
def c_rest (σ1 : x_Hp) : Option (Int32 × x_Hp) := x_b (F_X6_takeFrom 1 21 σ1) fun _ σ2 => x_b (F_X0_begin 34 35 σ2) fun _ σ3 => x_b (F_X7_begin σ3) fun _ σ4 => x_pt (x_pI σ4 0 13 (0 : Int32)) fun σ5 => F_X8_read_51 x_fuel 0 (0 : Int32) σ5
theorem c_good {τ : x_Hp} {S N : Nat} {L : x_LW} (hS : S ≤ 420) (hN : N < 420) (hL : c_L S N τ L 7) : ∃ T ρ, c_rest (x_pI τ 14 1 0) = some (0, ρ) ∧ x_Tx ρ T ∧ T.2 = L ∧ (∀ b, b < 8 → T.1 1 b = τ.1 21 b) ∧ (∀ i j, i < 5 → j < 6 → T.1 (3 + i) j = τ.1 (23 + i) j) ∧ e62 (x_gS ρ 35) (m_beg T) ∧ ρ.1 39 1 = 0 ∧ ρ.1 39 2 = 0 ∧ ρ.1 39 3 = τ.1 39 3 + 1 ∧ ρ.1 0 13 = 0 ∧ (∀ s, s < 3 → ρ.1 142 s = 0) ∧ ρ.1 14 1 = 0 ∧ ∀ a b, (a = 14 ∧ b = 11) ∨ a = 30 ∨ (143 ≤ a ∧ a ≤ 152) → ρ.1 a b = τ.1 a b := by
  have s1 : ∀ a b, ¬ (a = 14 ∧ b = 1) → (x_pI τ 14 1 0).1 a b = τ.1 a b := fun a b q => by rw [x_pI_1, if_neg q]
  have s2 : (x_pI τ 14 1 0).1 14 1 = 0 := by rw [x_pI_1, if_pos ⟨rfl, rfl⟩]
  generalize x_pI τ 14 1 0 = σ1 at s1 s2 ⊢
  obtain ⟨ρ1, a1, a2, a3, a4, a5, a6, a7, a8⟩ := c_taken σ1
  have hTx : x_Tx ρ1 (ρ1.1, L) := ⟨fun b => rfl, fun a b _ _ => rfl, c_Lw (σ := τ) hS hN (fun j hj => by rw [a4 j hj, s1 _ _ (by omega)]) (fun j hj => by rw [a5 j hj, s1 _ _ (by omega)]) (fun j hj => by rw [a6 j hj, s1 _ _ (by omega)]) (fun j hj => by rw [a7 j hj, s1 _ _ (by omega)]) hL⟩
  generalize hT : ((ρ1.1, L) : x_TT) = T at hTx
  have t1 : ∀ a b, T.1 a b = ρ1.1 a b := fun a b => by rw [← hT]
  have t2 : T.2 = L := by rw [← hT]
  have eb := e_begin x_St35 hTx (x_gS ρ1 35) (x_sc ρ1)
  rw [← x_hp_of ρ1 x_St35] at eb
  have g2 : e62 (x_gS (x_hp ρ1 35 (m_beg T) (x_sc ρ1)) 35) (m_beg T) := gS_hp x_St35 _ _ _
  have o2 : ∀ a b, a ≠ 35 → a ≠ 36 → a ≠ 13 → a ≠ 8 → (x_hp ρ1 35 (m_beg T) (x_sc ρ1)).1 a b = ρ1.1 a b := fun a b q1 q2 q3 q4 => x_hp_oth _ _ _ _ _ q1 q2 q3 q4
  generalize x_hp ρ1 35 (m_beg T) (x_sc ρ1) = ρ2 at eb g2 o2
  have o3 : ∀ a b, ¬ (a = 39 ∧ (b = 1 ∨ b = 2 ∨ b = 3)) → ¬ (a = 0 ∧ b = 13) → (x_pI (x_pI (x_pI (x_pI ρ2 39 1 0) 39 2 0) 39 3 (ρ2.1 39 3 + 1)) 0 13 0).1 a b = ρ2.1 a b := fun a b q1 q2 => by
    rw [x_pI_1, if_neg q2, x_pI_1, if_neg (by omega), x_pI_1, if_neg (by omega), x_pI_1, if_neg (by omega)]
  have p1 : (x_pI (x_pI (x_pI (x_pI ρ2 39 1 0) 39 2 0) 39 3 (ρ2.1 39 3 + 1)) 0 13 0).1 39 1 = 0 := by
    rw [x_pI_1, if_neg (by omega), x_pI_1, if_neg (by omega), x_pI_1, if_neg (by omega), x_pI_1, if_pos ⟨rfl, rfl⟩]
  have p2 : (x_pI (x_pI (x_pI (x_pI ρ2 39 1 0) 39 2 0) 39 3 (ρ2.1 39 3 + 1)) 0 13 0).1 39 2 = 0 := by
    rw [x_pI_1, if_neg (by omega), x_pI_1, if_neg (by omega), x_pI_1, if_pos ⟨rfl, rfl⟩]
  have p3 : (x_pI (x_pI (x_pI (x_pI ρ2 39 1 0) 39 2 0) 39 3 (ρ2.1 39 3 + 1)) 0 13 0).1 39 3 = ρ2.1 39 3 + 1 := by
    rw [x_pI_1, if_neg (by omega), x_pI_1, if_pos ⟨rfl, rfl⟩]
  have p4 : (x_pI (x_pI (x_pI (x_pI ρ2 39 1 0) 39 2 0) 39 3 (ρ2.1 39 3 + 1)) 0 13 0).1 0 13 = 0 := by
    rw [x_pI_1, if_pos ⟨rfl, rfl⟩]
  have e7 : ∀ K : Unit → x_Hp → Option (Int32 × x_Hp), x_b (F_X7_begin ρ2) K = K () (x_pI (x_pI (x_pI ρ2 39 1 0) 39 2 0) 39 3 (ρ2.1 39 3 + 1)) := fun K => by
    rw [F_X7_begin, x_pt_s, x_pt_s, x_pt_s, x_b_s]
    rw [show (x_pI (x_pI ρ2 39 1 0) 39 2 0).1 39 3 = ρ2.1 39 3 by rw [x_pI_1, if_neg (by omega), x_pI_1, if_neg (by omega)]]
  generalize h3 : x_pI (x_pI (x_pI (x_pI ρ2 39 1 0) 39 2 0) 39 3 (ρ2.1 39 3 + 1)) 0 13 0 = ρ3 at o3 p1 p2 p3 p4
  obtain ⟨ρ, b1, b2, b3⟩ := c_r51 0 3 0 x_fuel ρ3 (by omega) (by rw [x_fuel]; omega) (fun k hk => absurd hk (by omega))
  refine ⟨T, ρ, ?_, ?_, t2, fun b hb => ?_, fun i j hi hj => ?_, ?_, ?_, ?_, ?_, ?_, b2, ?_, fun a b q => ?_⟩
  · rw [c_rest, a1, x_b_s, eb, x_b_s, e7, x_pt_s, h3]
    exact b1
  · exact hTx.ag (fun a b q => by rw [b3 _ _ (by omega), o3 _ _ (by omega) (by omega), o2 _ _ (by omega) (by omega) (by omega) (by omega)])
  · rw [t1, a2 b hb, s1 _ _ (by omega)]
  · rw [t1, a3 i j hi hj, s1 _ _ (by omega)]
  · rw [show x_gS ρ 35 = x_gS ρ2 35 from gS_ag 35 (fun b => by rw [b3 _ _ (by omega), o3 _ _ (by omega) (by omega)]) (fun b => by rw [b3 _ _ (by omega), o3 _ _ (by omega) (by omega)])]
    exact g2
  · rw [b3 _ _ (by omega), p1]
  · rw [b3 _ _ (by omega), p2]
  · rw [b3 _ _ (by omega), p3, o2 _ _ (by omega) (by omega) (by omega) (by omega), a8 _ _ (by omega), s1 _ _ (by omega)]
  · rw [b3 _ _ (by omega), p4]
  · rw [b3 _ _ (by omega), o3 _ _ (by omega) (by omega), o2 _ _ (by omega) (by omega) (by omega) (by omega), a8 _ _ (by omega), s2]
  · rw [b3 _ _ (by omega), o3 _ _ (by omega) (by omega), o2 _ _ (by omega) (by omega) (by omega) (by omega), a8 _ _ (by omega), s1 _ _ (by omega)]
theorem y_good {ν : x_Hp} {T : x_TT} {sd A : Nat} (e13 : ν.1 0 13 = 0) (e15 : ν.1 0 15 = 0) (e19 : ν.1 0 19 = nI sd) (hT : y_Tx (x_pI (x_pI ν 0 17 (-1)) 0 18 (nI sd)) T sd A) : ∃ κ, F_X9_read_134 ν = some (0, κ) ∧ y_Tx κ T sd A ∧ (∀ k, k < 60 → κ.1 31 k = y_rv (m_beg T) k) ∧ κ.1 0 54 = 0 ∧ κ.1 0 68 = 0 ∧ (∀ k, k < 3 → κ.1 43 k = 0) ∧ κ.1 0 17 = -1 ∧ (∀ a b, a = 0 ∧ (b = 2 ∨ b = 44) → κ.1 a b = ν.1 a b) ∧ ∀ a b, κ.2 a b = ν.2 a b := by
  have g0 : (x_pI ν 0 17 (-1)).1 0 13 = 0 := by rw [x_pI_1, if_neg (by omega), e13]
  have g1 : (x_pI ν 0 17 (-1)).1 0 15 = 0 := by rw [x_pI_1, if_neg (by omega), e15]
  have g2 : (x_pI ν 0 17 (-1)).1 0 19 = nI sd := by rw [x_pI_1, if_neg (by omega), e19]
  have eb := y_begins hT
  have sm : y_sm (x_pI (x_pI ν 0 17 (-1)) 0 18 (nI sd)) (z_hp (y_m0 (x_pI (x_pI ν 0 17 (-1)) 0 18 (nI sd)) sd) (m_beg T) (y_sc (x_pI (x_pI ν 0 17 (-1)) 0 18 (nI sd)))) := (y_m0.sm _ _).tr (y_sm.hp _ _ _)
  have lg : ∀ a b, (z_hp (y_m0 (x_pI (x_pI ν 0 17 (-1)) 0 18 (nI sd)) sd) (m_beg T) (y_sc (x_pI (x_pI ν 0 17 (-1)) 0 18 (nI sd)))).2 a b = ν.2 a b := fun a b => rfl
  have r32 : ∀ k, k < 60 → (z_hp (y_m0 (x_pI (x_pI ν 0 17 (-1)) 0 18 (nI sd)) sd) (m_beg T) (y_sc (x_pI (x_pI ν 0 17 (-1)) 0 18 (nI sd)))).1 32 k = y_rv (m_beg T) k := fun k hk => by rw [z_hp, y_row _ _ _ hk]
  generalize z_hp (y_m0 (x_pI (x_pI ν 0 17 (-1)) 0 18 (nI sd)) sd) (m_beg T) (y_sc (x_pI (x_pI ν 0 17 (-1)) 0 18 (nI sd))) = κ1 at eb sm lg r32
  have q1 : ∀ a b, ¬ (a = 31 ∧ b < 60) → ¬ (a = 0 ∧ (b = 54 ∨ b = 68)) → (x_pI (x_pI (y_fl κ1 31 0 60 (κ1.1 32) 0) 0 54 0) 0 68 0).1 a b = κ1.1 a b := fun a b q1 q2 => by
    rw [x_pI_1, if_neg (by omega), x_pI_1, if_neg (by omega), y_fl_o _ _ _ _ _ (by omega)]
  have q2 : ∀ k, k < 60 → (x_pI (x_pI (y_fl κ1 31 0 60 (κ1.1 32) 0) 0 54 0) 0 68 0).1 31 k = y_rv (m_beg T) k := fun k hk => by
    have := y_fl_in κ1 31 0 60 (κ1.1 32) hk
    rw [Nat.zero_add] at this
    rw [x_pI_1, if_neg (by omega), x_pI_1, if_neg (by omega), this, r32 k hk]
  have q3 : (x_pI (x_pI (y_fl κ1 31 0 60 (κ1.1 32) 0) 0 54 0) 0 68 0).1 0 54 = 0 := by rw [x_pI_1, if_neg (by omega), x_pI_1, if_pos ⟨rfl, rfl⟩]
  have q4 : (x_pI (x_pI (y_fl κ1 31 0 60 (κ1.1 32) 0) 0 54 0) 0 68 0).1 0 68 = 0 := by rw [x_pI_1, if_pos ⟨rfl, rfl⟩]
  have q5 : ∀ a b, (x_pI (x_pI (y_fl κ1 31 0 60 (κ1.1 32) 0) 0 54 0) 0 68 0).2 a b = ν.2 a b := fun a b => lg a b
  generalize h2 : x_pI (x_pI (y_fl κ1 31 0 60 (κ1.1 32) 0) 0 54 0) 0 68 0 = κ2 at q1 q2 q3 q4 q5
  obtain ⟨κ, b1, b2, b3, b4⟩ := y_r219 3 0 x_fuel κ2 (by omega) (by rw [x_fuel]; omega) (fun k hk => absurd hk (by omega))
  have fr : ∀ a b, ¬ y_Sb a b → a ≠ 43 → a ≠ 31 → ¬ (a = 0 ∧ (b = 54 ∨ b = 68)) → κ.1 a b = (x_pI (x_pI ν 0 17 (-1)) 0 18 (nI sd)).1 a b := fun a b n1 n2 n3 n4 => by
    rw [b3 _ _ n2, q1 _ _ (by omega) n4, sm _ _ n1]
  refine ⟨κ, ?_, ?_, fun k hk => ?_, ?_, ?_, b2, ?_, fun a b q => ?_, fun a b => ?_⟩
  · rw [F_X9_read_134, e13, if_pos (show (0 : Int32) ≤ 0 by decide), e15, if_pos (show (0 : Int32) ≤ 0 by decide), F_X9_read_164, x_pt_s, g0, if_pos (show (0 : Int32) ≤ 0 by decide), g1, if_pos (show (0 : Int32) ≤ 0 by decide), g2, x_pt_s, eb, x_b_s, y_keepsRow, x_b_s, x_pt_s, x_pt_s, h2]
    exact b1
  · exact hT.agt ⟨fr _ _ (by unfold y_Sb; omega) (by omega) (by omega) (by omega), fun a b n1 n2 => fr _ _ (by unfold y_Sb; omega) (by omega) (by omega) (by omega)⟩
  · rw [b3 _ _ (by omega), q2 k hk]
  · rw [b3 _ _ (by omega), q3]
  · rw [b3 _ _ (by omega), q4]
  · rw [fr _ _ (by unfold y_Sb; omega) (by omega) (by omega) (by omega), x_pI_1, if_neg (by omega), x_pI_1, if_pos ⟨rfl, rfl⟩]
  · rw [fr _ _ (by unfold y_Sb; omega) (by omega) (by omega) (by omega), x_pI_1, if_neg (by omega), x_pI_1, if_neg (by omega)]
  · rw [b4, q5]
