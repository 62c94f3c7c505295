/-! READING: a call of both -/
theorem d_read {K : Nat} {σ μ : x_Hp} (h : r_full K σ μ) : ∃ r τ ν, F_X8_read σ = some (r, τ) ∧ F_X9_read μ = some (r, ν) ∧ r_full (K + 1) τ ν := by
  obtain ⟨⟨T0, lv, N0, v, ch, h1, h2, h3, h4, h5, h6, h7⟩, hk, hw⟩ := h
  have hlv := h1.2.1.1
  obtain ⟨len, bb, u1, u2, u3, u4, u5, u6⟩ := id h2
  obtain ⟨τ, ν, c1, c2, c3, c4, c5, c6, c7⟩ := p_reads hlv h1.2.1.2.2.1 h6 hk hw
  have hsd : 1 - lv < 2 := by omega
  have hk' : ∀ κ : x_Hp, (∀ a b, κ.2 a b = ν.2 a b) → y_keys κ := fun κ e r hr => by
    rw [e, c4.2 7 r (by omega) (by omega)]; exact hk r hr
  have s10 : ∀ x, τ.1 14 10 = x → (x_pI τ 14 1 0).1 14 10 = x := fun x e => by rw [x_pI_1, if_neg (by omega), e]
  have r1 : F_X8_read σ = if τ.1 14 10 = 0 then c_rest (x_pI τ 14 1 0) else some (τ.1 14 10, x_pI τ 14 1 0) := by
    rw [F_X8_read, c1, F_X4_readTape_61, x_pt_s, x_b_s, s10 _ rfl]
    by_cases z : τ.1 14 10 = 0
    · rw [if_pos z, if_pos z, z, c_rest]
    · rw [if_neg z, if_neg z]
  -- a fault that both have
  have faulty : ∀ (k : Nat) (pl : Int32), k ≠ 0 → k < 10 → τ.1 14 10 = nI k → τ.1 14 11 = pl → F_X9_read_134 ν = some (nI k, x_pI ν 0 17 pl) → (∃ w, w ≤ 40 ∧ ν.1 0 44 = nI w) → ∃ r τ ν, F_X8_read σ = some (r, τ) ∧ F_X9_read μ = some (r, ν) ∧ r_full (K + 1) τ ν := by
    intro k pl k0 k10 e1 e2 e3 e4
    refine ⟨nI k, x_pI τ 14 1 0, x_pI ν 0 17 pl, ?_, by rw [c2, e3], d_faulty h1 h2 h3 h4 h5 h6.2 h7 c3 c4 c5 pl e2, hk' _ (fun a b => rfl), ?_⟩
    · rw [r1, if_neg (by rw [e1]; exact fun q => k0 ((nI_eq (b := 0) (by omega) (by decide)).mp q)), e1]
    · obtain ⟨w, w1, w2⟩ := e4
      exact ⟨w, w1, by rw [x_pI_1, if_neg (by omega), w2]⟩
  have npos : ∀ k, k ≠ 0 → k < 10 → ¬ nI k ≤ 0 := fun k k0 k10 q => by
    have := nI_ge (a := 0) (b := k) (by omega) (by omega)
    exact this q
  rcases c7 with ⟨h, S, N, C, bn, L, A, P, p1, p2, p3, p4, p5, p6⟩ | ⟨k, pl, p1, p2, p3, p4, p5, p6⟩
  · rcases p3 with ⟨z1, z2, z3⟩ | ⟨w, j, z1, z2, z3, z4, z5, z6⟩
    · -- the text is taken
      obtain ⟨b1, b2, b3, b4, b5, b6, b7, b8, b9, b10, ⟨w, w1, w2, -⟩, b12, b13⟩ := p4
      obtain ⟨d1, d2, d3, d4, d5, d6, d7, d8, d9, d10⟩ := p6
      obtain ⟨T, ρ, g1, g2, g3, g4, g5, g6, g7, g8, g9, g10, g11, g12, g13⟩ := c_good (by omega) (by omega) b12
      have hN6 : A ≤ 6 := d1
      have row : ∀ a b, ¬ (a = 0 ∧ (b = 17 ∨ b = 18)) → (x_pI (x_pI ν 0 17 (-1)) 0 18 (nI (1 - lv))).1 a b = ν.1 a b := fun a b q => by
        rw [x_pI_1, if_neg (by omega), x_pI_1, if_neg (by omega)]
      have hTy : y_Tx (x_pI (x_pI ν 0 17 (-1)) 0 18 (nI (1 - lv))) T (1 - lv) A := by
        refine ⟨hsd, d1, by rw [x_pI_1, if_pos ⟨rfl, rfl⟩], by rw [g4 7 (by omega)]; exact d2, by rw [row _ _ (by omega)]; exact d4, fun a ha => ?_, ?_, ?_, ?_, fun k hk => ?_, ?_⟩
        · obtain ⟨-, f1, f2, f3, f4, f5, -⟩ := d5 a ha
          have g : ∀ i, i < 5 → T.1 (3 + i) a = τ.1 (23 + i) a := fun i hi => g5 i a hi (by omega)
          exact ⟨by rw [row _ _ (by omega), f1]; exact (g 0 (by omega)).symm, by rw [row _ _ (by omega), f2]; exact (g 1 (by omega)).symm, by rw [row _ _ (by omega), f3]; exact (g 2 (by omega)).symm, by rw [row _ _ (by omega), f4]; exact (g 3 (by omega)).symm, by rw [row _ _ (by omega), f5]; exact (g 4 (by omega)).symm⟩
        · rw [row _ _ (by omega), d6, g4 4 (by omega)]
        · rw [row _ _ (by omega), d7, g4 5 (by omega)]
        · rw [row _ _ (by omega), d8, g4 6 (by omega)]
        · rw [row _ _ (by omega), d9 k hk, g4 k (by omega)]
        · rw [g3]
          exact y_L.Lw (C := C) (bn := bn) hsd (by omega) (by omega) (b13.ag (Nat.le_refl _) (Nat.le_refl _) (fun a b _ _ _ => row _ _ (by omega)) (fun a j _ _ _ _ => row _ _ (by omega)) (fun k hk he => ⟨he, row _ _ (by omega), row _ _ (by omega)⟩))
      obtain ⟨κ, k1, k2, k3, k4, k5, k6, k7, k8, k9⟩ := y_good p2 z2 c6 hTy
      obtain ⟨f1, f2, f3⟩ := d10 z1
      have hB : m_TB T A := by
        refine ⟨?_, ?_, fun k hk => ?_, fun a ha => ?_⟩
        · rw [g4 4 (by omega)]; exact f1
        · rw [g4 5 (by omega)]; exact f2
        · rw [g4 k (by omega)]; exact f3 k hk
        · have e : T.1 7 a = τ.1 27 a := g5 4 a (by omega) (by omega)
          rw [e]
          exact (d5 a ha).2.2.2.2.2.2
      have hJ : m_J T A (241 * (K + 1)) (m_beg T) := (m_J.beg hTy.2.2.2.1 d1 hB).mono (by omega)
      have cr : ∀ a b, a = 39 ∨ (143 ≤ a ∧ a ≤ 152) → τ.1 a b = σ.1 a b := fun a b q => c3 a b (by omega)
      refine ⟨0, ρ, κ, by rw [r1, if_pos z1, g1], by rw [c2, k1], ⟨T, 1 - lv, A, x_gS ρ 35, ch + 1, r_V.mk g2 k2 hB g6 hJ k3, ?_, by omega, fun s hs => Or.inl ⟨g11 s hs, k6 s hs⟩, ?_, ?_, ?_⟩, hk' _ k9, w, w1, by rw [k8 0 44 (by omega), w2]⟩
      · exact ⟨0, 0, by omega, by omega, g7, g8, by rw [g9, cr _ _ (by omega), u5, nI_1], k4, fun j hj => absurd hj (by omega)⟩
      · exact ⟨0, by omega, g10, k5, fun j hj => absurd hj (by omega)⟩
      · refine ⟨⟨0, by omega, g12, by rw [k8 0 2 (by omega), c5]; rfl, by rw [g13 _ _ (by omega), z3, k7], fun j hj => absurd hj (by omega)⟩, ?_⟩
        rw [g13 _ _ (by omega), c3 _ _ (by omega)]
        exact h6.2
      · exact h7.nx (fun b => by rw [g13 _ _ (by omega), cr _ _ (by omega)])
    · refine faulty w (nI (P j)) (by omega) (by omega) z3 z5 ?_ ?_
      · have w0 : w ≠ 0 := by omega
        have n1 := npos w w0 (by omega)
        have g : ∀ b, b ≠ 17 → (x_pI ν 0 17 (nI (P j))).1 0 b = ν.1 0 b := fun b q => by rw [x_pI_1, if_neg (by omega)]
        rw [F_X9_read_134, p2, if_pos (show (0 : Int32) ≤ 0 by decide), z4, if_neg n1, z6, F_X9_read_164, x_pt_s, g 13 (by decide), p2, if_pos (show (0 : Int32) ≤ 0 by decide), g 15 (by decide), z4, if_neg n1]
      · obtain ⟨-, -, -, -, -, -, -, -, -, -, ⟨w, w1, w2, -⟩, -⟩ := p4
        exact ⟨w, w1, w2⟩
  · refine faulty k (nI pl) (by omega) (by omega) p2 p3 ?_ p6
    have n1 := npos k (by omega) (by omega)
    have g : ∀ b, b ≠ 17 → (x_pI ν 0 17 (nI pl)).1 0 b = ν.1 0 b := fun b q => by rw [x_pI_1, if_neg (by omega)]
    rw [F_X9_read_134, p4, if_neg n1, p5, F_X9_read_164, x_pt_s, g 13 (by decide), p4, if_neg n1]
