/-! READING: an aunt's name, known or not -/
theorem c_knows {σ : x_Hp} {A : Nat} (h7 : σ.1 21 7 = nI A) (hA : A ≤ 6) (y1 : Int64) : ∀ (d i f : Nat), i + d = A → d < f → ((∃ a, i ≤ a ∧ a < A ∧ lg_cmp (σ.2 22 a) y1 = 0) → F_X6_knows_2 f 21 y1 (nI i) σ = some (1, σ)) ∧ ((∀ a, i ≤ a → a < A → ¬ lg_cmp (σ.2 22 a) y1 = 0) → F_X6_knows_2 f 21 y1 (nI i) σ = some (0, σ))
  | 0, i, f, e, hf => by
    obtain ⟨f, rfl⟩ := Nat.exists_eq_succ_of_ne_zero (show f ≠ 0 by omega)
    constructor
    · rintro ⟨a, a1, a2, _⟩; exact absurd a1 (by omega)
    · intro _; rw [F_X6_knows_2, h7, if_pos (nI_le (by omega) (by omega))]
  | d + 1, i, f, e, hf => by
    obtain ⟨f, rfl⟩ := Nat.exists_eq_succ_of_ne_zero (show f ≠ 0 by omega)
    have l22 : x_ln TX (x_rf TX 21 8) = 6 := by decide +kernel
    have r22 : x_rf TX 21 8 = 22 := by decide +kernel
    have ih := c_knows h7 hA y1 d (i + 1) f (by omega) (by omega)
    have st : F_X6_knows_2 (f + 1) 21 y1 (nI i) σ = if lg_cmp (σ.2 22 i) y1 = 0 then some ((1 : Int32), σ) else F_X6_knows_2 f 21 y1 (nI (i + 1)) σ := by
      rw [F_X6_knows_2, h7, if_neg (nI_ge (by omega) (by omega)), l22, if_neg (show ¬ Int32.ofNat 6 ≤ nI i from nI_ge (b := 6) (by omega) (by decide)), x_gd_t (x_inb_nI (by omega) (by decide)), r22, x_ix_nI (by omega), nI_1]
    rw [st]
    by_cases z : lg_cmp (σ.2 22 i) y1 = 0
    · rw [if_pos z]
      exact ⟨fun _ => rfl, fun w => absurd z (w i (Nat.le_refl _) (by omega))⟩
    · rw [if_neg z]
      refine ⟨fun ⟨a, a1, a2, a3⟩ => ih.1 ⟨a, ?_, a2, a3⟩, fun w => ih.2 (fun a a1 a2 => w a (by omega) a2)⟩
      rcases Nat.lt_or_eq_of_le a1 with q | q
      · exact q
      · subst q; exact absurd a3 z
/-- the reference's row of names -/
theorem y_34 {μ : x_Hp} {A x2 : Nat} (hA : A ≤ 6) (hx : x2 < 403) (h20 : μ.1 0 20 = nI A) (h13 : μ.1 0 13 = 0) (x1 : Int32) : ∀ (d i f : Nat), i + d = A → d < f → ((∀ a, i ≤ a → a < A → ¬ lg_cmp (μ.2 8 a) (μ.2 6 x2) = 0) → F_X9_tellAunt_34 f x1 (nI x2) (nI i) μ = F_X9_tellAunt_77 x1 (nI x2) μ) ∧ (F_X9_wrong 3 (nI x2) μ = some ((), μ) → F_X9_tellAunt_34 f x1 (nI x2) (nI i) μ = F_X9_tellAunt_77 x1 (nI x2) μ)
  | 0, i, f, e, hf => by
    obtain ⟨f, rfl⟩ := Nat.exists_eq_succ_of_ne_zero (show f ≠ 0 by omega)
    have : F_X9_tellAunt_34 (f + 1) x1 (nI x2) (nI i) μ = F_X9_tellAunt_77 x1 (nI x2) μ := by rw [F_X9_tellAunt_34, h20, if_pos (nI_le (by omega) (by omega))]
    exact ⟨fun _ => this, fun _ => this⟩
  | d + 1, i, f, e, hf => by
    obtain ⟨f, rfl⟩ := Nat.exists_eq_succ_of_ne_zero (show f ≠ 0 by omega)
    have ih := y_34 hA hx h20 h13 x1 d (i + 1) f (by omega) (by omega)
    have st : F_X9_tellAunt_34 (f + 1) x1 (nI x2) (nI i) μ = if lg_cmp (μ.2 8 i) (μ.2 6 x2) = 0 then x_b (F_X9_wrong (3 : Int32) (nI x2) μ) (fun _ σ6 => F_X9_tellAunt_34 f x1 (nI x2) (nI (i + 1)) σ6) else F_X9_tellAunt_34 f x1 (nI x2) (nI (i + 1)) μ := by
      rw [F_X9_tellAunt_34, h20, if_neg (nI_ge (by omega) (by omega)), h13, if_pos rfl, x_gd_t (x_inb_nI (by omega) (by decide)), x_gd_t (x_inb_nI hx (by decide)), x_ix_nI (by omega), x_ix_nI (by omega)]
      simp only [F_X9_tellAunt_71, nI_1]
    rw [st]
    constructor
    · intro w
      rw [if_neg (w i (Nat.le_refl _) (by omega))]
      exact ih.1 (fun a a1 a2 => w a (by omega) a2)
    · intro w
      by_cases z : lg_cmp (μ.2 8 i) (μ.2 6 x2) = 0
      · rw [if_pos z, w, x_b_s]; exact ih.2 w
      · rw [if_neg z]; exact ih.2 w
/-- a known name: noted once, and that is all -/
theorem y_34k {μ ν : x_Hp} {A x2 : Nat} (hA : A ≤ 6) (hx : x2 < 403) (h20 : μ.1 0 20 = nI A) (h13 : μ.1 0 13 = 0) (k20 : ν.1 0 20 = nI A) (k13 : ν.1 0 13 = 0) (hw : F_X9_wrong 3 (nI x2) μ = some ((), ν)) (hw2 : F_X9_wrong 3 (nI x2) ν = some ((), ν)) (x1 : Int32) : ∀ (d i f : Nat), i + d = A → d < f → (∃ a, i ≤ a ∧ a < A ∧ lg_cmp (μ.2 8 a) (μ.2 6 x2) = 0) → F_X9_tellAunt_34 f x1 (nI x2) (nI i) μ = F_X9_tellAunt_77 x1 (nI x2) ν
  | 0, i, f, e, hf, ⟨a, a1, a2, _⟩ => absurd a1 (by omega)
  | d + 1, i, f, e, hf, ⟨a, a1, a2, a3⟩ => by
    obtain ⟨f, rfl⟩ := Nat.exists_eq_succ_of_ne_zero (show f ≠ 0 by omega)
    have st : F_X9_tellAunt_34 (f + 1) x1 (nI x2) (nI i) μ = if lg_cmp (μ.2 8 i) (μ.2 6 x2) = 0 then x_b (F_X9_wrong (3 : Int32) (nI x2) μ) (fun _ σ6 => F_X9_tellAunt_34 f x1 (nI x2) (nI (i + 1)) σ6) else F_X9_tellAunt_34 f x1 (nI x2) (nI (i + 1)) μ := by
      rw [F_X9_tellAunt_34, h20, if_neg (nI_ge (by omega) (by omega)), h13, if_pos rfl, x_gd_t (x_inb_nI (by omega) (by decide)), x_gd_t (x_inb_nI hx (by decide)), x_ix_nI (by omega), x_ix_nI (by omega)]
      simp only [F_X9_tellAunt_71, nI_1]
    rw [st]
    by_cases z : lg_cmp (μ.2 8 i) (μ.2 6 x2) = 0
    · rw [if_pos z, hw, x_b_s]
      exact (y_34 hA hx k20 k13 x1 d (i + 1) f (by omega) (by omega)).2 hw2
    · rw [if_neg z]
      refine y_34k hA hx h20 h13 k20 k13 hw hw2 x1 d (i + 1) f (by omega) (by omega) ⟨a, ?_, a2, a3⟩
      rcases Nat.lt_or_eq_of_le a1 with q | q
      · exact q
      · subst q; exact absurd a3 z
