/-! THE REFERENCE: the row taken anew from what stands -/
def y_set (τ : x_Hp) (s who by' : Int32) : x_Hp := x_pI (x_pI (x_pI τ 0 50 s) 0 51 who) 0 52 by'
theorem y_set_o (τ : x_Hp) (s who by' : Int32) {a b : Nat} (h : a ≠ 0 ∨ (b ≠ 50 ∧ b ≠ 51 ∧ b ≠ 52)) : (y_set τ s who by').1 a b = τ.1 a b := by
  rw [y_set, x_pI_1, if_neg (by omega), x_pI_1, if_neg (by omega), x_pI_1, if_neg (by omega)]
theorem y_set_50 (τ : x_Hp) (s who by' : Int32) : (y_set τ s who by').1 0 50 = s := by
  rw [y_set, x_pI_1, if_neg (by omega), x_pI_1, if_neg (by omega), x_pI_1, if_pos ⟨rfl, rfl⟩]
theorem y_set_51 (τ : x_Hp) (s who by' : Int32) : (y_set τ s who by').1 0 51 = who := by
  rw [y_set, x_pI_1, if_neg (by omega), x_pI_1, if_pos ⟨rfl, rfl⟩]
theorem y_set_52 (τ : x_Hp) (s who by' : Int32) : (y_set τ s who by').1 0 52 = by' := by
  rw [y_set, x_pI_1, if_pos ⟨rfl, rfl⟩]
theorem y_plainly {τ : x_Hp} {lv : Nat} (hlv : lv < 2) (h18 : τ.1 0 18 = nI lv) : F_X9_plainly τ = some ((), y_set τ (τ.1 18 lv) (-1) 0) := by
  rw [F_X9_plainly, h18, x_gd_t (x_inb_nI hlv (by decide)), x_pt_s, x_pt_s, x_pt_s, x_ix_nI (by omega)]
  rfl
theorem y_copies {τ : x_Hp} {lv : Nat} (hlv : lv < 2) (h18 : τ.1 0 18 = nI lv) {v : x_V} (hv : ∀ k, k < 60 → τ.1 31 k = y_rv v k) : F_X9_copies τ = some ((), z_hp (y_set τ (τ.1 18 lv) (-1) 0) v (y_sc τ)) := by
  have loop : ∀ (d n i : Nat) (σ : x_Hp), i + d = 60 → d < n → σ.1 0 18 = nI lv → (∀ k, k < 60 → σ.1 31 k = y_rv v k) → F_X9_copies_2 n (nI i) σ = some ((), y_set (x_u σ.1 32 (fun j => if i ≤ j ∧ j < 60 then y_rv v j else σ.1 32 j), σ.2) (σ.1 18 lv) (-1) 0) := by
    intro d
    induction d with
    | zero =>
      intro n i σ h1 h2 h3 h4
      obtain ⟨n, rfl⟩ : ∃ m, n = m + 1 := ⟨n - 1, by omega⟩
      have : i = 60 := by omega
      subst this
      rw [F_X9_copies_2, if_pos (by decide), y_plainly hlv h3, x_b_s]
      have e : (x_u σ.1 32 (fun j => if 60 ≤ j ∧ j < 60 then y_rv v j else σ.1 32 j), σ.2) = σ := by
        refine x_ext (fun a b => ?_) rfl
        simp only [x_u]
        by_cases ha : a = 32
        · subst ha; rw [if_pos rfl, if_neg (by omega)]
        · rw [if_neg ha]
      rw [e]
    | succ d ih =>
      intro n i σ h1 h2 h3 h4
      obtain ⟨n, rfl⟩ : ∃ m, n = m + 1 := ⟨n - 1, by omega⟩
      have hi : x_inb (nI i) 60 = true := x_inb_nI (by omega) (by decide)
      have p18 : ∀ (x : Int32), (x_pI σ 32 i x).1 0 18 = σ.1 0 18 := fun x => by rw [x_pI_1, if_neg (by omega)]
      rw [F_X9_copies_2, show (60 : Int32) = nI 60 from rfl, if_neg (nI_ge (by omega) (by decide)), x_gd_t hi, x_gd_t hi, x_pt_s, x_ix_nI (by omega), h4 i (by omega), nI_1, ih n (i + 1) _ (by omega) (by omega) (by rw [p18]; exact h3) (fun k hk => by rw [x_pI_1, if_neg (by omega)]; exact h4 k hk), x_pI_1, if_neg (by omega)]
      congr 3
      refine x_ext (fun a b => ?_) rfl
      simp only [x_u]
      by_cases ha : a = 32
      · rw [if_pos ha, if_pos ha]
        by_cases hb : b = i
        · subst hb
          rw [if_neg (by omega), if_pos (by omega), x_pI_1, if_pos ⟨rfl, rfl⟩]
        · by_cases hb2 : i + 1 ≤ b ∧ b < 60
          · rw [if_pos hb2, if_pos (by omega)]
          · rw [if_neg hb2, if_neg (by omega), x_pI_1, if_neg (by omega)]
      · rw [if_neg ha, if_neg ha, x_pI_1, if_neg (by omega)]
  rw [F_X9_copies, show (0 : Int32) = nI 0 from rfl, loop 60 x_fuel 0 τ (by omega) (by decide) h18 hv]
  refine congrArg (fun z => some ((), z)) (x_ext (fun a b => ?_) rfl)
  simp only [z_hp, y_hp, y_sc]
  by_cases h : a = 0 ∧ (b = 50 ∨ b = 51 ∨ b = 52)
  · obtain ⟨rfl, h⟩ := h
    rcases h with rfl | rfl | rfl
    · rw [y_set_50]; simp [y_set_50]
    · rw [y_set_51]; simp [y_set_51]
    · rw [y_set_52]; simp [y_set_52]; rfl
  · have ho : a ≠ 0 ∨ (b ≠ 50 ∧ b ≠ 51 ∧ b ≠ 52) := by omega
    rw [y_set_o _ _ _ _ ho, y_set_o _ _ _ _ ho]
    simp only [x_u]
    by_cases h32 : a = 32
    · rw [if_pos h32, if_pos h32]
      by_cases hb : b < 60
      · rw [if_pos ⟨Nat.zero_le _, hb⟩, if_pos hb]
      · rw [if_neg (by omega), if_neg hb, y_set_o _ _ _ _ (Or.inl (by decide))]
    · rw [if_neg h32, if_neg h32]
      by_cases h29 : a = 29
      · subst h29; simp
      · by_cases h30 : a = 30
        · subst h30; simp
        · by_cases h33 : a = 33
          · subst h33; simp
          · by_cases h0 : a = 0 ∧ b = 47
            · obtain ⟨rfl, rfl⟩ := h0; simp
            · simp [h29, h30, h33, h0]
