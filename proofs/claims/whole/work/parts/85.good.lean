/-! READING: no fault, and the text is taken -/
theorem c_brs {S N : Nat} {σ : x_Hp} {st pc : Nat → Int32} (hS : S ≤ 420) (hN : N < 420) (h9 : ∀ j, j < 420 → st j = σ.1 29 j) (h10 : ∀ j, j < 420 → pc j = σ.1 30 j) {z : List Int32} : ∀ (qs : List (List Int32 × List Int32 × List Int32)) (p : Nat), c_pre S N σ p qs → c_pc S N σ (p + 3 * qs.length) z → x_brs st pc p qs z := by
  have one : ∀ (q : Nat) (cs : List Int32), c_pc S N σ q cs → x_pc st pc q cs := by
    rintro q cs ⟨a1, a2, a, a3, a4, a5, a6⟩
    exact ⟨by omega, a2, a, by rw [h10 _ (by omega)]; exact a3, by rw [h10 _ (by omega)]; exact a4, by omega, fun i hi => by rw [h9 _ (by omega)]; exact a6 i hi⟩
  intro qs
  induction qs with
  | nil => intro p _ h; exact one _ _ h
  | cons t qs ih =>
    rintro p ⟨h1, h2, h3, h4⟩ h
    exact ⟨one _ _ h1, one _ _ h2, one _ _ h3, ih (p + 3) h4 (by rw [show p + 3 + 3 * qs.length = p + 3 * (t :: qs).length by rw [List.length_cons]; omega]; exact h)⟩
theorem c_Lw {S N : Nat} {σ : x_Hp} {st pc fp fi : Nat → Int32} {L : x_LW} (hS : S ≤ 420) (hN : N < 420) (h9 : ∀ j, j < 420 → st j = σ.1 29 j) (h10 : ∀ j, j < 420 → pc j = σ.1 30 j) (h11 : ∀ j, j < 7 → fp j = σ.1 31 j) (h12 : ∀ j, j < 7 → fi j = σ.1 32 j) (h : c_L S N σ L 7) : x_Lw st pc fp fi L := by
  intro k hk
  obtain ⟨p, a1, a2, a3, a4⟩ := h k hk (by omega)
  have := a4.1
  exact ⟨p, by rw [h11 k hk]; exact a1, by rw [h12 k hk]; exact a2, by omega, c_brs hS hN h9 h10 _ _ a3 a4⟩
theorem y_c.cd {sd C : Nat} {μ : x_Hp} (hC : C ≤ 840) {a e : Int32} {cs : List Int32} (h : y_c sd C μ a e cs) : y_cd μ a e cs := by
  obtain ⟨h1, f, h2, h3, h4, h5, h6⟩ := h
  exact ⟨h1, f, h2, h3, by omega, h6⟩
theorem y_c.rg {sd C : Nat} {μ : x_Hp} (hC : C ≤ 420 * sd + 420) {a e : Int32} {cs : List Int32} (h : y_c sd C μ a e cs) : (∃ c : Nat, a = nI c ∧ 420 * sd ≤ c ∧ c ≤ 420 * sd + 420) ∧ ∃ c : Nat, e = nI c ∧ 420 * sd ≤ c ∧ c ≤ 420 * sd + 420 := by
  obtain ⟨h1, f, h2, h3, h4, h5, h6⟩ := h
  exact ⟨⟨f, h2, by omega, by omega⟩, ⟨f + cs.length, h3, by omega, by omega⟩⟩
theorem y_pre.brs {sd C : Nat} {μ : x_Hp} (hC : C ≤ 840) {z : List Int32} : ∀ (qs : List (List Int32 × List Int32 × List Int32)) (b : Nat), b + qs.length < 260 → y_pre sd C μ b qs → μ.1 21 (b + qs.length) = 0 → y_c sd C μ (μ.1 24 (b + qs.length)) (μ.1 25 (b + qs.length)) z → y_brs μ b qs z
  | [], b, hb, _, h1, h2 => ⟨hb, h1, h2.cd hC⟩
  | t :: qs, b, hb, ⟨⟨a1, a2, a3, a4⟩, a5⟩, h1, h2 => by
    have e : b + (t :: qs).length = b + 1 + qs.length := by rw [List.length_cons]; omega
    rw [e] at hb h1 h2
    exact ⟨by omega, a1, a2.cd hC, a3.cd hC, a4.cd hC, y_pre.brs hC qs (b + 1) hb a5 h1 h2⟩
theorem y_pre.rg {sd C : Nat} {μ : x_Hp} (hC : C ≤ 420 * sd + 420) : ∀ (qs : List (List Int32 × List Int32 × List Int32)) (b : Nat), y_pre sd C μ b qs → ∀ j r, b ≤ j → j < b + qs.length → 22 ≤ r → r ≤ 25 → ∃ c : Nat, μ.1 r j = nI c ∧ 420 * sd ≤ c ∧ c ≤ 420 * sd + 420
  | [], b, _, j, r, h1, h2, _, _ => absurd h2 (by show ¬ j < b + 0; omega)
  | t :: qs, b, ⟨⟨a1, a2, a3, a4⟩, a5⟩, j, r, h1, h2, h3, h4 => by
    by_cases z : j = b
    · subst z
      have : r = 22 ∨ r = 23 ∨ r = 24 ∨ r = 25 := by omega
      rcases this with rfl | rfl | rfl | rfl
      · exact (a2.rg hC).1
      · exact (a2.rg hC).2
      · exact (a3.rg hC).2
      · exact (a4.rg hC).2
    · have e : b + (t :: qs).length = b + 1 + qs.length := by rw [List.length_cons]; omega
      exact y_pre.rg hC qs (b + 1) a5 j r (by omega) (by omega) h3 h4
theorem y_L.Lw {sd C bn : Nat} {μ : x_Hp} {L : x_LW} (hsd : sd < 2) (hC : C ≤ 420 * sd + 420) (hb : bn ≤ 130) (h : y_L sd C bn μ L 7) : y_Lw μ sd L := by
  intro k hk
  rcases h k hk (by omega) with q | ⟨f, a1, a2, a3, a4, a5, a6, a7⟩
  · exact Or.inl q
  · refine Or.inr ⟨f, a1, a2, y_pre.brs (by omega) _ _ (by omega) a5 a6 a7, a3, by omega, fun b r z1 z2 z3 z4 z5 => ?_⟩
    by_cases y : b < f + (L k).1.length
    · exact y_pre.rg hC _ _ a5 b r z1 y z3 z4
    · have e : b = f + (L k).1.length := by omega
      subst e
      have : r = 24 ∨ r = 25 := by omega
      rcases this with rfl | rfl
      · exact (a7.rg hC).1
      · exact (a7.rg hC).2
theorem c_cp (r0 r1 : Nat) (hne : r0 ≠ r1) {L : Nat} (h0 : x_ln TX r0 = L) (h1 : x_ln TX r1 = L) (hL : L < 60000) (σ : x_Hp) : ∃ ρ, F_X8_copy r0 r1 σ = some ((), ρ) ∧ (∀ j, j < L → ρ.1 r1 j = σ.1 r0 j) ∧ ∀ a b, a ≠ r1 → ρ.1 a b = σ.1 a b := by
  refine ⟨_, e_copy r0 r1 hne h0 h1 hL σ, fun j hj => ?_, fun a b h => ?_⟩
  · simp only [x_u]
    rw [if_pos trivial, if_pos hj]
  · simp only [x_u]
    rw [if_neg h]
/-- the class takes the text -/
theorem c_taken (σ : x_Hp) : ∃ ρ, F_X6_takeFrom 1 21 σ = some ((), ρ) ∧ (∀ b, b < 8 → ρ.1 1 b = σ.1 21 b) ∧ (∀ i j, i < 5 → j < 6 → ρ.1 (3 + i) j = σ.1 (23 + i) j) ∧ (∀ j, j < 420 → ρ.1 9 j = σ.1 29 j) ∧ (∀ j, j < 420 → ρ.1 10 j = σ.1 30 j) ∧ (∀ j, j < 7 → ρ.1 11 j = σ.1 31 j) ∧ (∀ j, j < 7 → ρ.1 12 j = σ.1 32 j) ∧ ∀ a b, (a = 0 ∨ 13 ≤ a) → ρ.1 a b = σ.1 a b := by
  have e0 : ∀ a b, a ≠ 1 → (x_pI (x_pI (x_pI (x_pI (x_pI (x_pI (x_pI (x_pI σ 1 0 (σ.1 21 0)) 1 1 (σ.1 21 1)) 1 2 (σ.1 21 2)) 1 3 (σ.1 21 3)) 1 4 (σ.1 21 4)) 1 5 (σ.1 21 5)) 1 6 (σ.1 21 6)) 1 7 (σ.1 21 7)).1 a b = σ.1 a b := fun a b q => by
    rw [x_pI_1, if_neg (by omega), x_pI_1, if_neg (by omega), x_pI_1, if_neg (by omega), x_pI_1, if_neg (by omega), x_pI_1, if_neg (by omega), x_pI_1, if_neg (by omega), x_pI_1, if_neg (by omega), x_pI_1, if_neg (by omega)]
  have e1 : ∀ b, b < 8 → (x_pI (x_pI (x_pI (x_pI (x_pI (x_pI (x_pI (x_pI σ 1 0 (σ.1 21 0)) 1 1 (σ.1 21 1)) 1 2 (σ.1 21 2)) 1 3 (σ.1 21 3)) 1 4 (σ.1 21 4)) 1 5 (σ.1 21 5)) 1 6 (σ.1 21 6)) 1 7 (σ.1 21 7)).1 1 b = σ.1 21 b := fun b q => by
    have : b = 0 ∨ b = 1 ∨ b = 2 ∨ b = 3 ∨ b = 4 ∨ b = 5 ∨ b = 6 ∨ b = 7 := by omega
    rcases this with rfl | rfl | rfl | rfl | rfl | rfl | rfl | rfl <;> rfl
  have r : F_X6_takeFrom 1 21 σ = x_b (F_X8_copy 23 3 (x_pI (x_pI (x_pI (x_pI (x_pI (x_pI (x_pI (x_pI σ 1 0 (σ.1 21 0)) 1 1 (σ.1 21 1)) 1 2 (σ.1 21 2)) 1 3 (σ.1 21 3)) 1 4 (σ.1 21 4)) 1 5 (σ.1 21 5)) 1 6 (σ.1 21 6)) 1 7 (σ.1 21 7))) (fun _ σ6 => x_b (F_X8_copy 24 4 σ6) fun _ σ7 => x_b (F_X8_copy 25 5 σ7) fun _ σ8 => x_b (F_X8_copy 26 6 σ8) fun _ σ9 => x_b (F_X8_copy 27 7 σ9) fun _ σ10 => x_b (F_X1_takeFrom 8 28 σ10) fun _ σ11 => some ((), σ11)) := by
    rw [F_X6_takeFrom, F_X6_tellBaby, x_pt_s, x_pt_s, x_pt_s, x_pt_s, x_b_s, x_pt_s, x_pt_s, x_pt_s, x_pt_s, rfX_21_9, rfX_21_10, rfX_21_11, rfX_21_12, rfX_21_13, rfX_21_14, rfX_1_9, rfX_1_10, rfX_1_11, rfX_1_12, rfX_1_13, rfX_1_14]
    rfl
  generalize x_pI (x_pI (x_pI (x_pI (x_pI (x_pI (x_pI (x_pI σ 1 0 (σ.1 21 0)) 1 1 (σ.1 21 1)) 1 2 (σ.1 21 2)) 1 3 (σ.1 21 3)) 1 4 (σ.1 21 4)) 1 5 (σ.1 21 5)) 1 6 (σ.1 21 6)) 1 7 (σ.1 21 7) = ρ0 at e0 e1 r
  obtain ⟨ρ1, a1, b1, c1⟩ := c_cp 23 3 (by decide) lnX_23 lnX_3 (by decide) ρ0
  obtain ⟨ρ2, a2, b2, c2⟩ := c_cp 24 4 (by decide) lnX_24 lnX_4 (by decide) ρ1
  obtain ⟨ρ3, a3, b3, c3⟩ := c_cp 25 5 (by decide) lnX_25 lnX_5 (by decide) ρ2
  obtain ⟨ρ4, a4, b4, c4⟩ := c_cp 26 6 (by decide) lnX_26 lnX_6 (by decide) ρ3
  obtain ⟨ρ5, a5, b5, c5⟩ := c_cp 27 7 (by decide) lnX_27 lnX_7 (by decide) ρ4
  obtain ⟨ρ6, a6, b6, c6⟩ := c_cp 29 9 (by decide) lnX_29 lnX_9 (by decide) ρ5
  obtain ⟨ρ7, a7, b7, c7⟩ := c_cp 30 10 (by decide) lnX_30 lnX_10 (by decide) (x_pI ρ6 8 1 (ρ6.1 28 1))
  obtain ⟨ρ8, a8, b8, c8⟩ := c_cp 31 11 (by decide) lnX_31 lnX_11 (by decide) (x_pI ρ7 8 3 (ρ7.1 28 3))
  obtain ⟨ρ9, a9, b9, c9⟩ := c_cp 32 12 (by decide) lnX_32 lnX_12 (by decide) ρ8
  have p6 : ∀ a b, a ≠ 8 → (x_pI ρ6 8 1 (ρ6.1 28 1)).1 a b = ρ6.1 a b := fun a b q => by rw [x_pI_1, if_neg (by omega)]
  have p7 : ∀ a b, a ≠ 8 → (x_pI ρ7 8 3 (ρ7.1 28 3)).1 a b = ρ7.1 a b := fun a b q => by rw [x_pI_1, if_neg (by omega)]
  -- what is read of one comes of the first
  have s : ∀ a b, a ≠ 1 → ¬ (3 ≤ a ∧ a ≤ 7) → a ≠ 9 → ρ6.1 a b = σ.1 a b := fun a b q1 q2 q3 => by
    rw [c6 a b q3, c5 a b (by omega), c4 a b (by omega), c3 a b (by omega), c2 a b (by omega), c1 a b (by omega), e0 a b q1]
  have k : ∀ a b, a ≠ 8 → a ≠ 10 → a ≠ 11 → a ≠ 12 → ρ9.1 a b = ρ6.1 a b := fun a b q1 q2 q3 q4 => by
    rw [c9 a b q4, c8 a b q3, p7 a b q1, c7 a b q2, p6 a b q1]
  refine ⟨ρ9, ?_, fun b hb => ?_, fun i j hi hj => ?_, fun j hj => ?_, fun j hj => ?_, fun j hj => ?_, fun j hj => ?_, fun a b q => ?_⟩
  · rw [r, a1, x_b_s, a2, x_b_s, a3, x_b_s, a4, x_b_s, a5, x_b_s, F_X1_takeFrom, rfX_28_0, rfX_28_2, rfX_28_4, rfX_28_5, rfX_8_0, rfX_8_2, rfX_8_4, rfX_8_5, a6, x_b_s, x_pt_s, a7, x_b_s, x_pt_s, a8, x_b_s, a9, x_b_s, x_b_s]
  · rw [k _ _ (by omega) (by omega) (by omega) (by omega), c6 _ _ (by omega), c5 _ _ (by omega), c4 _ _ (by omega), c3 _ _ (by omega), c2 _ _ (by omega), c1 _ _ (by omega), e1 b hb]
  · rw [k _ _ (by omega) (by omega) (by omega) (by omega), c6 _ _ (by omega)]
    have : i = 0 ∨ i = 1 ∨ i = 2 ∨ i = 3 ∨ i = 4 := by omega
    rcases this with rfl | rfl | rfl | rfl | rfl
    · rw [c5 _ _ (by omega), c4 _ _ (by omega), c3 _ _ (by omega), c2 _ _ (by omega)]
      exact (b1 j hj).trans (e0 _ _ (by omega))
    · rw [c5 _ _ (by omega), c4 _ _ (by omega), c3 _ _ (by omega)]
      exact (b2 j hj).trans ((c1 _ _ (by omega)).trans (e0 _ _ (by omega)))
    · rw [c5 _ _ (by omega), c4 _ _ (by omega)]
      exact (b3 j hj).trans ((c2 _ _ (by omega)).trans ((c1 _ _ (by omega)).trans (e0 _ _ (by omega))))
    · rw [c5 _ _ (by omega)]
      exact (b4 j hj).trans ((c3 _ _ (by omega)).trans ((c2 _ _ (by omega)).trans ((c1 _ _ (by omega)).trans (e0 _ _ (by omega)))))
    · exact (b5 j hj).trans ((c4 _ _ (by omega)).trans ((c3 _ _ (by omega)).trans ((c2 _ _ (by omega)).trans ((c1 _ _ (by omega)).trans (e0 _ _ (by omega))))))
  · rw [k _ _ (by omega) (by omega) (by omega) (by omega), b6 j hj, c5 _ _ (by omega), c4 _ _ (by omega), c3 _ _ (by omega), c2 _ _ (by omega), c1 _ _ (by omega), e0 _ _ (by omega)]
  · rw [c9 _ _ (by omega), c8 _ _ (by omega), p7 _ _ (by omega), b7 j hj, p6 _ _ (by omega), s _ _ (by omega) (by omega) (by omega)]
  · rw [c9 _ _ (by omega), b8 j hj, p7 _ _ (by omega), c7 _ _ (by omega), p6 _ _ (by omega), s _ _ (by omega) (by omega) (by omega)]
  · rw [b9 j hj, c8 _ _ (by omega), p7 _ _ (by omega), c7 _ _ (by omega), p6 _ _ (by omega), s _ _ (by omega) (by omega) (by omega)]
  · rw [k _ _ (by omega) (by omega) (by omega) (by omega), s _ _ (by omega) (by omega) (by omega)]
