/-! READING: what is noted twice; what is noted behind the step -/
theorem i_irr (x : Int32) : ¬ x < x := Int32.lt_irrefl
theorem y_wrong2 {x1 x2 : Int32} {μ ν : x_Hp} (hx : ¬ x1 = 0) (h : F_X9_wrong x1 x2 μ = some ((), ν)) : F_X9_wrong x1 x2 ν = some ((), ν) := by
  have k46 : ∀ {ν : x_Hp}, x_inb x2 403 = true → ¬ (0 : Int32) < μ.1 0 13 → F_X9_wrong_46 x1 (μ.1 4 (x_ix x2)) μ = some ((), ν) → F_X9_wrong x1 x2 ν = some ((), ν) := by
    intro ν z1 z2 e
    rw [F_X9_wrong_46, x_pt_s, x_pt_s] at e
    cases e
    have e13 : (x_pI (x_pI μ 0 15 x1) 0 16 (μ.1 4 (x_ix x2))).1 0 13 = μ.1 0 13 := by rw [x_pI_1, if_neg (by omega), x_pI_1, if_neg (by omega)]
    have e15 : (x_pI (x_pI μ 0 15 x1) 0 16 (μ.1 4 (x_ix x2))).1 0 15 = x1 := by rw [x_pI_1, if_neg (by omega), x_pI_1, if_pos ⟨rfl, rfl⟩]
    have e16 : (x_pI (x_pI μ 0 15 x1) 0 16 (μ.1 4 (x_ix x2))).1 0 16 = μ.1 4 (x_ix x2) := by rw [x_pI_1, if_pos ⟨rfl, rfl⟩]
    have e4 : ∀ b, (x_pI (x_pI μ 0 15 x1) 0 16 (μ.1 4 (x_ix x2))).1 4 b = μ.1 4 b := fun b => by rw [x_pI_1, if_neg (by omega), x_pI_1, if_neg (by omega)]
    rw [F_X9_wrong, x_gd_t z1, e13, if_neg z2, e15, if_neg hx, e16, e4, if_neg (i_irr _), if_pos rfl, if_neg (i_irr _)]
  have h0 := h
  rw [F_X9_wrong] at h
  by_cases z1 : x_inb x2 403 = true
  · rw [x_gd_t z1] at h
    by_cases z2 : (0 : Int32) < μ.1 0 13
    · rw [if_pos z2] at h; cases h; exact h0
    rw [if_neg z2] at h
    by_cases z3 : μ.1 0 15 = 0
    · rw [if_pos z3] at h; exact k46 z1 z2 h
    rw [if_neg z3] at h
    by_cases z4 : μ.1 0 16 < μ.1 4 (x_ix x2)
    · rw [if_pos z4] at h; cases h; exact h0
    rw [if_neg z4] at h
    by_cases z5 : μ.1 4 (x_ix x2) = μ.1 0 16
    · rw [if_pos z5] at h
      by_cases z6 : x1 < μ.1 0 15
      · rw [if_pos z6] at h; exact k46 z1 z2 h
      · rw [if_neg z6] at h; cases h; exact h0
    · rw [if_neg z5] at h; exact k46 z1 z2 h
  · simp only [x_gd, z1] at h; cases h
theorem y_wrong11 {x1 x2 : Int32} {μ ν : x_Hp} (t : Int32) (h : F_X9_wrong x1 x2 μ = some ((), ν)) : F_X9_wrong x1 x2 (x_pI μ 0 11 t) = some ((), x_pI ν 0 11 t) := by
  have e : ∀ a b, ¬ (a = 0 ∧ b = 11) → (x_pI μ 0 11 t).1 a b = μ.1 a b := fun a b z => by rw [x_pI_1, if_neg z]
  have k46 : ∀ {ν : x_Hp}, F_X9_wrong_46 x1 (μ.1 4 (x_ix x2)) μ = some ((), ν) → F_X9_wrong_46 x1 (μ.1 4 (x_ix x2)) (x_pI μ 0 11 t) = some ((), x_pI ν 0 11 t) := by
    intro ν q
    rw [F_X9_wrong_46, x_pt_s, x_pt_s] at q
    cases q
    rw [F_X9_wrong_46, x_pt_s, x_pt_s, x_pI_comm μ (a := 0) (b := 11) (c := 0) (d := 15) (by omega), x_pI_comm _ (a := 0) (b := 11) (c := 0) (d := 16) (by omega)]
  rw [F_X9_wrong] at h ⊢
  rw [e 0 13 (by omega), e 0 15 (by omega), e 0 16 (by omega), e 4 _ (by omega)]
  by_cases z1 : x_inb x2 403 = true
  · rw [x_gd_t z1] at h ⊢
    by_cases z2 : (0 : Int32) < μ.1 0 13
    · rw [if_pos z2] at h ⊢; cases h; rfl
    rw [if_neg z2] at h ⊢
    by_cases z3 : μ.1 0 15 = 0
    · rw [if_pos z3] at h ⊢; exact k46 h
    rw [if_neg z3] at h ⊢
    by_cases z4 : μ.1 0 16 < μ.1 4 (x_ix x2)
    · rw [if_pos z4] at h ⊢; cases h; rfl
    rw [if_neg z4] at h ⊢
    by_cases z5 : μ.1 4 (x_ix x2) = μ.1 0 16
    · rw [if_pos z5] at h ⊢
      by_cases z6 : x1 < μ.1 0 15
      · rw [if_pos z6] at h ⊢; exact k46 h
      · rw [if_neg z6] at h ⊢; cases h; rfl
    · rw [if_neg z5] at h ⊢; exact k46 h
  · simp only [x_gd, z1] at h; cases h
