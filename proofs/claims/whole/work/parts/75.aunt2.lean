/-! READING: an aunt's end, both -/
section AUNT2
variable {σ0 μ0 : x_Hp} {K P : Nat → Nat} {m sd q h : Nat}
theorem p_R.pLc {σ μ : x_Hp} (g : p_R σ0 μ0 P m sd q h σ μ) (b : Nat) (y : Int64) : p_R σ0 μ0 P m sd q h (x_pL σ 22 b y) μ := by
  obtain ⟨g1, g2, g3, g4, g5, g6, g7, g8, g9⟩ := g
  exact ⟨⟨g1.1, fun a c z => by rw [x_pL_2, if_neg (fun w => z w.1)]; exact g1.2 a c z⟩, g2, g3, g4, g5, g6, g7, g8, g9⟩
theorem p_R.pLy {σ μ : x_Hp} (g : p_R σ0 μ0 P m sd q h σ μ) (b : Nat) (y : Int64) : p_R σ0 μ0 P m sd q h σ (x_pL μ 8 b y) := by
  obtain ⟨g1, g2, g3, g4, g5, g6, g7, g8, g9⟩ := g
  exact ⟨g1, ⟨g2.1, fun a c z => by rw [x_pL_2, if_neg (fun w => z w.1)]; exact g2.2 a c z⟩, g3, g4, g5, g6, g7, g8, g9⟩
/-- the class's rows of a new aunt -/
def c_new (σ : x_Hp) (A s : Nat) (y1 : Int64) : x_Hp := x_pI (x_pI (x_pI (x_pI (x_pI (x_pI (x_pL σ 22 A y1) 23 A (σ.1 19 0)) 24 A (σ.1 19 1)) 25 A (σ.1 19 2)) 26 A (σ.1 19 3)) 27 A (nI s)) 21 7 (nI (A + 1))
theorem c_new_1 (σ : x_Hp) (A s : Nat) (y1 : Int64) (a b : Nat) : (c_new σ A s y1).1 a b = if a = 21 ∧ b = 7 then nI (A + 1) else if a = 27 ∧ b = A then nI s else if a = 26 ∧ b = A then σ.1 19 3 else if a = 25 ∧ b = A then σ.1 19 2 else if a = 24 ∧ b = A then σ.1 19 1 else if a = 23 ∧ b = A then σ.1 19 0 else σ.1 a b := by
  rw [c_new, x_pI_1, x_pI_1, x_pI_1, x_pI_1, x_pI_1, x_pI_1, x_pL_1]
theorem c_new_2 (σ : x_Hp) (A s : Nat) (y1 : Int64) (a b : Nat) : (c_new σ A s y1).2 a b = if a = 22 ∧ b = A then y1 else σ.2 a b := by
  rw [c_new, x_pI_2, x_pI_2, x_pI_2, x_pI_2, x_pI_2, x_pI_2, x_pL_2]
theorem p_R.new {σ μ : x_Hp} (g : p_R σ0 μ0 P m sd q h σ μ) (A s : Nat) (y1 : Int64) : p_R σ0 μ0 P m sd q h (c_new σ A s y1) μ :=
  ((((((g.pLc A y1).pIc (a := 23) (b := A) (by omega) _).pIc (a := 24) (b := A) (by omega) _).pIc (a := 25) (b := A) (by omega) _).pIc (a := 26) (b := A) (by omega) _).pIc (a := 27) (b := A) (by omega) _).pIc (a := 21) (b := 7) (by omega) _
theorem c_tellA {σ : x_Hp} {A s : Nat} (h7 : σ.1 21 7 = nI A) (hA : A < 6) (hs : s ≤ 1) (y1 : Int64) : F_X6_tellAunt 21 y1 19 (nI s) σ = some ((), c_new σ A s y1) := by
  have l22 : x_ln TX (x_rf TX 21 8) = 6 := by decide +kernel
  have e0 : ∀ k, k < 4 → ∀ ρ : x_Hp, x_aT ρ 19 (nI k) = ρ.1 19 k := fun k hk ρ => x_aT_nI _ _ (by rw [lnX_19]; exact hk)
  have r : ∀ (ρ : x_Hp) (a b : Nat) (x : Int32), a ≠ 19 → a ≠ 21 → (ρ.1 21 7 = nI A → (x_pI ρ a b x).1 21 7 = nI A) ∧ ∀ k, (x_pI ρ a b x).1 19 k = ρ.1 19 k := fun ρ a b x h1 h2 => ⟨fun e => by rw [x_pI_1, if_neg (by omega)]; exact e, fun k => by rw [x_pI_1, if_neg (by omega)]⟩
  have k7 : (x_pL σ 22 A y1).1 21 7 = nI A := h7
  have k7a := (r _ 23 A (σ.1 19 0) (by decide) (by decide)).1 k7
  have k7b := (r _ 24 A (σ.1 19 1) (by decide) (by decide)).1 k7a
  have k7c := (r _ 25 A (σ.1 19 2) (by decide) (by decide)).1 k7b
  have k7d := (r _ 26 A (σ.1 19 3) (by decide) (by decide)).1 k7c
  have k7e := (r _ 27 A (nI s) (by decide) (by decide)).1 k7d
  have last : ∀ x, x = nI s → F_X6_tellAunt_111 21 x (nI A) 27 (x_pI (x_pI (x_pI (x_pI (x_pL σ 22 A y1) 23 A (σ.1 19 0)) 24 A (σ.1 19 1)) 25 A (σ.1 19 2)) 26 A (σ.1 19 3)) = some ((), c_new σ A s y1) := fun x hx => by
    rw [F_X6_tellAunt_111, hx, e_put, x_b_s, x_pT_nI _ _ (by rw [lnX_27]; exact hA), k7e, nI_1, x_pt_s]; rfl
  have n0 : (x_pL σ 22 A y1).1 19 0 = σ.1 19 0 := rfl
  have n1 : (x_pI (x_pL σ 22 A y1) 23 A (σ.1 19 0)).1 19 1 = σ.1 19 1 := by rw [x_pI_1, if_neg (by omega)]; rfl
  have n2 : (x_pI (x_pI (x_pL σ 22 A y1) 23 A (σ.1 19 0)) 24 A (σ.1 19 1)).1 19 2 = σ.1 19 2 := by rw [x_pI_1, if_neg (by omega), x_pI_1, if_neg (by omega)]; rfl
  have n3 : (x_pI (x_pI (x_pI (x_pL σ 22 A y1) 23 A (σ.1 19 0)) 24 A (σ.1 19 1)) 25 A (σ.1 19 2)).1 19 3 = σ.1 19 3 := by rw [x_pI_1, if_neg (by omega), x_pI_1, if_neg (by omega), x_pI_1, if_neg (by omega)]; rfl
  have a0 : ∀ ρ : x_Hp, F_X8_at 19 0 ρ = some (ρ.1 19 0, ρ) := fun ρ => by rw [e_at, show (0 : Int32) = nI 0 from rfl, e0 0 (by decide)]
  have a1 : ∀ ρ : x_Hp, F_X8_at 19 1 ρ = some (ρ.1 19 1, ρ) := fun ρ => by rw [e_at, show (1 : Int32) = nI 1 from rfl, e0 1 (by decide)]
  have a2 : ∀ ρ : x_Hp, F_X8_at 19 2 ρ = some (ρ.1 19 2, ρ) := fun ρ => by rw [e_at, show (2 : Int32) = nI 2 from rfl, e0 2 (by decide)]
  have a3 : ∀ ρ : x_Hp, F_X8_at 19 3 ρ = some (ρ.1 19 3, ρ) := fun ρ => by rw [e_at, show (3 : Int32) = nI 3 from rfl, e0 3 (by decide)]
  rw [F_X6_tellAunt, h7, if_neg (nI_pos (by omega)), l22, if_neg (show ¬ Int32.ofNat 6 ≤ nI A from nI_ge (b := 6) hA (by decide)), x_gd_t (x_inb_nI hA (by decide)), x_ix_nI (by omega), show x_rf TX 21 8 = 22 by decide +kernel, x_pt_s, F_X6_tellAunt_29, a0, x_b_s, k7, show x_rf TX 21 9 = 23 by decide +kernel, e_put, x_b_s, x_pT_nI _ _ (by rw [lnX_23]; exact hA), n0, a1, x_b_s, k7a, n1, show x_rf TX 21 10 = 24 by decide +kernel, e_put, x_b_s, x_pT_nI _ _ (by rw [lnX_24]; exact hA), a2, x_b_s, k7b, n2, show x_rf TX 21 11 = 25 by decide +kernel, e_put, x_b_s, x_pT_nI _ _ (by rw [lnX_25]; exact hA), a3, x_b_s, k7c, n3, show x_rf TX 21 12 = 26 by decide +kernel, e_put, x_b_s, x_pT_nI _ _ (by rw [lnX_26]; exact hA), k7d, show x_rf TX 21 13 = 27 by decide +kernel]
  have hs' : s = 0 ∨ s = 1 := by omega
  rcases hs' with rfl | rfl
  · rw [if_pos (show nI 0 = (0 : Int32) from rfl)]; exact last 0 rfl
  · rw [if_neg (show ¬ nI 1 = (0 : Int32) by decide)]; exact last 1 rfl
end AUNT2
