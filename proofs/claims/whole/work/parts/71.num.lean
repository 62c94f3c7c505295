/-! READING: a number, both -/
section NUM
variable {σ0 μ0 : x_Hp} {K P : Nat → Nat} {m sd : Nat}
theorem p_num (ht : t_fin σ0 μ0 K P m) {h B mx i x2 : Nat} {σ μ : x_Hp} (g : p_R σ0 μ0 P m sd h h σ μ) (hbd : y_bd sd B μ) (hmx : mx ≤ 9999) (hi : i < x2) (hx : x2 ≤ 4) (f : Nat) : ∃ τ ν v, F_X9_bounded 0 (nI mx) μ = some (v, ν) ∧ ((F_X4_takeNumbers_3 (f + 1) (nI x2) (nI mx) (nI i) σ = F_X4_takeNumbers_3 f (nI x2) (nI mx) (nI (i + 1)) τ ∧ ∃ wv, wv ≤ 9999 ∧ v = nI wv ∧ p_R σ0 μ0 P m sd (h + 1) (h + 1) τ ν ∧ c_hd σ τ ∧ y_hd μ ν ∧ τ.1 19 i = nI wv ∧ (∀ j, j ≠ i → τ.1 19 j = σ.1 19 j) ∧ (τ.1 14 10 = 0 → wv ≤ mx ∧ σ.1 14 10 = 0)) ∨ (F_X4_takeNumbers_3 (f + 1) (nI x2) (nI mx) (nI i) σ = some (0, τ) ∧ p_bad σ0 μ0 sd B τ ν)) := by
  have h4 := g.2.2.2.1
  have tk := g.tk ht h4.2
  have hK : K h < 62 := by have := tk.1; unfold n_kd at this; omega
  have i2 : F_X9_is 2 μ = some (if K h = 31 then 1 else 0, μ) := g.is ht (kc := 31) (by unfold n_kd; omega)
  have np : ¬ (0 : Int32) < μ.1 0 13 := by rw [g.k13]; decide
  have hw : F_X4_worth σ = some (σ.2 17 h, σ) := by
    rw [F_X4_worth, g.2.2.2.2.1, if_neg (nI_pos (by omega)), if_neg (show ¬ (402 : Int32) ≤ nI h from nI_ge (b := 402) (by omega) (by decide)), x_gd_t (x_inb_nI (by omega) (by decide)), x_ix_nI (by omega)]
  have put : ∀ (ρ : x_Hp) (x : Int32), F_X8_put 19 (nI i) x ρ = some ((), x_pI ρ 19 i x) := fun ρ x => by
    rw [e_put, x_pT_nI _ _ (by rw [lnX_19]; omega)]
  by_cases z : K h = 31
  · have z' : nI (K h) = (31 : Int32) := by rw [z]; rfl
    rw [if_pos z] at i2
    obtain ⟨wv, w1, w2, w3⟩ := tk.2.2.2.2.2.2.1 z
    have wi : (σ.2 17 h).toInt32 = nI wv := by rw [w2]; exact lN_i (by omega)
    have hc : F_X4_takeNumbers_3 (f + 1) (nI x2) (nI mx) (nI i) σ = if nI wv ≤ nI mx then F_X4_takeNumbers_36 (F_X4_takeNumbers_3 f) (nI x2) (nI mx) (nI i) (nI wv) σ else x_b (F_X4_note (5 : Int32) σ) (fun _ σ3 => F_X4_takeNumbers_36 (F_X4_takeNumbers_3 f) (nI x2) (nI mx) (nI i) (nI wv) σ3) := by
      rw [F_X4_takeNumbers_3, if_neg (nI_ge hi (by omega)), hw, x_b_s, g.kind ht, x_b_s, if_pos z', wi]
    have hr : F_X9_bounded 0 (nI mx) μ = if nI wv ≤ nI mx then F_X9_bounded_51 (nI wv) μ else F_X9_bounded_42 (nI wv) μ := by
      rw [F_X9_bounded, if_neg np, i2, x_b_s, if_neg (show ¬ (1 : Int32) = 0 by decide), g.2.2.2.2.2.1, x_gd_t (x_inb_nI (by omega) (by decide)), x_ix_nI (by omega), w3, if_neg (nI_pos (by omega))]
    -- both lay it down and step on
    have go : ∀ {q : Nat} {ρ κ : x_Hp}, p_R σ0 μ0 P m sd q h ρ κ → q ≤ h + 1 → c_hd σ ρ → y_hd μ κ → (∀ j, ρ.1 19 j = σ.1 19 j) → (ρ.1 14 10 = 0 → wv ≤ mx ∧ σ.1 14 10 = 0) → ∃ τ ν v, F_X9_bounded_51 (nI wv) κ = some (v, ν) ∧ ((F_X4_takeNumbers_36 (F_X4_takeNumbers_3 f) (nI x2) (nI mx) (nI i) (nI wv) ρ = F_X4_takeNumbers_3 f (nI x2) (nI mx) (nI (i + 1)) τ ∧ ∃ wv, wv ≤ 9999 ∧ v = nI wv ∧ p_R σ0 μ0 P m sd (h + 1) (h + 1) τ ν ∧ c_hd σ τ ∧ y_hd μ ν ∧ τ.1 19 i = nI wv ∧ (∀ j, j ≠ i → τ.1 19 j = σ.1 19 j) ∧ (τ.1 14 10 = 0 → wv ≤ mx ∧ σ.1 14 10 = 0)) ∨ (F_X4_takeNumbers_36 (F_X4_takeNumbers_3 f) (nI x2) (nI mx) (nI i) (nI wv) ρ = some (0, τ) ∧ p_bad σ0 μ0 sd B τ ν)) := by
      intro q ρ κ gg hq cd yd f19 fn
      have g2 : p_R σ0 μ0 P m sd q h (x_pI ρ 19 i (nI wv)) κ := gg.pIc (by omega) _
      have tk31 : ∀ r τ, (r = (0 : Int32) ∨ r = 1) → F_X4_take (x_pI ρ 19 i (nI wv)) = some (r, τ) → F_X4_take_ 31 (x_pI ρ 19 i (nI wv)) = some (r, τ) := fun r τ hr e => by
        rw [F_X4_take_, g2.kind ht, x_b_s, if_pos z', e, x_b_s, x_gd_t (by rcases hr with rfl | rfl <;> decide)]
      rcases p_step ht g2 hq (by omega) (hbd.hd yd) with ⟨a1, a2, a3, a4⟩ | ⟨τ, ν, a2, a3, a4, a6⟩
      · refine ⟨_, _, nI wv, by rw [F_X9_bounded_51, a3, x_b_s], Or.inl ⟨?_, wv, w1, rfl, a4, (cd.tr (c_hd.pI ρ (a := 19) (b := i) (by omega) _)).tr (c_hd.pI _ (a := 14) (b := 6) (by omega) _), yd.tr (y_hd.pI κ (by omega) _), ?_, fun j hj => ?_, fun e => ?_⟩⟩
        · rw [F_X4_takeNumbers_36, put, x_b_s, tk31 1 _ (Or.inr rfl) a2, x_b_s, if_neg (show ¬ (1 : Int32) = 0 by decide), nI_1]
        · rw [x_pI_1, if_neg (by omega), x_pI_1, if_pos ⟨rfl, rfl⟩]
        · rw [x_pI_1, if_neg (by omega), x_pI_1, if_neg (fun w => hj w.2), f19]
        · rw [x_pI_1, if_neg (by omega), x_pI_1, if_neg (by omega)] at e; exact fn e
      · exact ⟨τ, ν, nI wv, by rw [F_X9_bounded_51, a3, x_b_s], Or.inr ⟨by rw [F_X4_takeNumbers_36, put, x_b_s, tk31 0 _ (Or.inl rfl) a2, x_b_s, if_pos rfl], a4⟩⟩
    by_cases y : wv ≤ mx
    · have y' : nI wv ≤ nI mx := nI_le y (by omega)
      rw [hc, hr, if_pos y', if_pos y']
      exact go g (by omega) (c_hd.same σ) (y_hd.same μ) (fun _ => rfl) (fun e => ⟨y, e⟩)
    · have y' : ¬ nI wv ≤ nI mx := nI_ge (by omega) (by omega)
      obtain ⟨ρ, κ, n1, n2, n3, n4, n5, n6, n7⟩ := p_note ht g (w := 5) (Or.inr rfl)
      have n1' : F_X4_note 5 σ = some ((), ρ) := n1
      have n2' : F_X9_wrong 5 (nI h) μ = some ((), κ) := n2
      rw [hc, hr, if_neg y', if_neg y', n1', x_b_s, F_X9_bounded_42, g.2.2.2.2.2.1, n2', x_b_s]
      exact go n3 (Nat.le_refl _) n4 n5 (fun j => n7 19 j (by decide)) (fun e => absurd e n6)
  · have z' : ¬ nI (K h) = (31 : Int32) := fun w => z ((nI_eq (b := 31) (by omega) (by decide)).mp w)
    rw [if_neg z] at i2
    have g2 : p_R σ0 μ0 P m sd h h (x_pI σ 19 i (σ.2 17 h).toInt32) μ := g.pIc (by omega) _
    obtain ⟨τ, ν, a1, a2, a3, a4, a5⟩ := p_fail ht g2 hbd (k := 1) (Or.inl rfl)
    refine ⟨τ, ν, 0, ?_, Or.inr ⟨?_, 1, P h, a3, a4⟩⟩
    · rw [F_X9_bounded, if_neg np, i2, x_b_s, if_pos rfl, F_X9_bounded_15, show (1 : Int32) = nI 1 from rfl, a2, x_b_s]
    · rw [F_X4_takeNumbers_3, if_neg (nI_ge hi (by omega)), hw, x_b_s, g.kind ht, x_b_s, if_neg z', F_X4_takeNumbers_36, put, x_b_s, F_X4_take_, g2.kind ht, x_b_s, if_neg z', show (1 : Int32) = nI 1 from rfl, a1, x_b_s, x_gd_t (by decide), x_b_s, if_pos rfl]
/-- behind the last number -/
theorem c_num_end (f : Nat) {x2 i : Nat} (h : x2 ≤ i) (hi : i ≤ 4) (mx : Int32) (σ : x_Hp) : F_X4_takeNumbers_3 (f + 1) (nI x2) mx (nI i) σ = some (1, σ) := by
  rw [F_X4_takeNumbers_3, if_pos (nI_le h (by omega))]
/-- the told numbers and aunts, as far as read -/
def p_TN (sd N : Nat) (σ μ : x_Hp) : Prop := N ≤ 6 ∧ σ.1 21 7 = nI N ∧ μ.1 0 20 = nI N ∧ μ.1 10 sd = nI N ∧ (∀ a, a < N → σ.2 22 a = μ.2 8 a ∧ μ.1 11 (6 * sd + a) = σ.1 23 a ∧ μ.1 12 (6 * sd + a) = σ.1 24 a ∧ μ.1 13 (6 * sd + a) = σ.1 25 a ∧ μ.1 14 (6 * sd + a) = σ.1 26 a ∧ μ.1 15 (6 * sd + a) = σ.1 27 a ∧ (σ.1 27 a = 0 ∨ σ.1 27 a = 1)) ∧ μ.1 16 sd = σ.1 21 4 ∧ μ.1 17 sd = σ.1 21 5 ∧ μ.1 18 sd = σ.1 21 6 ∧ (∀ k, k < 4 → μ.1 9 (4 * sd + k) = σ.1 21 k) ∧ (σ.1 14 10 = 0 → (∃ f, f ≤ 99 ∧ σ.1 21 4 = nI f) ∧ (∃ f, f ≤ 99 ∧ σ.1 21 5 = nI f) ∧ ∀ k, k < 4 → ∃ b, b ≤ 99 ∧ σ.1 21 k = nI b)
end NUM
