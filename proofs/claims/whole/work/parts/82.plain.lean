/-! READING: the plain text, both -/
def n_pl (k : Nat) : Int32 := if k < 2 then 1 else 0
def c_plf (σ τ : x_Hp) : Prop := (∀ a b, ¬ (a = 28 ∧ (b = 1 ∨ b = 3)) → ¬ (29 ≤ a ∧ a ≤ 32 ∧ ¬ (a = 30 ∧ b = 0)) → τ.1 a b = σ.1 a b) ∧ ∀ a b, τ.2 a b = σ.2 a b
def c_pl (i : Nat) (σ τ : x_Hp) : Prop := τ.1 28 1 = nI i ∧ τ.1 28 3 = nI i ∧ (∀ j, j ≤ i → τ.1 30 j = nI j) ∧ (∀ k, k < i → τ.1 29 k = n_pl k ∧ τ.1 31 k = nI k ∧ τ.1 32 k = nI 0) ∧ c_plf σ τ
theorem c_pl_step {i : Nat} {σ τ : x_Hp} (hi : i < 7) (h : c_pl i σ τ) (K : Nat → Int32 → x_Hp → Option (Unit × x_Hp)) : ∃ ρ, x_b (F_X1_beginLaw 28 (nI i) τ) (fun _ σ3 => F_X1_begin_38 K 28 (nI i) (n_pl i) 28 σ3) = K 28 (nI (i + 1)) ρ ∧ c_pl (i + 1) σ ρ := by
  obtain ⟨h1, h2, h3, h4, h5, h6⟩ := h
  refine ⟨x_pI (x_pI (x_pI (x_pI (x_pI (x_pI τ 31 i (nI i)) 32 i 0) 29 i (n_pl i)) 28 1 (nI (i + 1))) 28 3 (nI (i + 1))) 30 (i + 1) (nI (i + 1)), ?_, ?_⟩
  · have e1 : (x_pI (x_pI τ 31 i (nI i)) 32 i 0).1 28 1 = nI i := by rw [x_pI_1, if_neg (by omega), x_pI_1, if_neg (by omega)]; exact h1
    have e2 : (x_pI (x_pI (x_pI τ 31 i (nI i)) 32 i 0) 29 i (n_pl i)).1 28 1 = nI i := by rw [x_pI_1, if_neg (by omega)]; exact e1
    have e3 : (x_pI (x_pI (x_pI (x_pI τ 31 i (nI i)) 32 i 0) 29 i (n_pl i)) 28 1 (nI (i + 1))).1 28 3 = nI i := by rw [x_pI_1, if_neg (by omega), x_pI_1, if_neg (by omega), x_pI_1, if_neg (by omega), x_pI_1, if_neg (by omega)]; exact h2
    have e4 : (x_pI (x_pI (x_pI (x_pI (x_pI τ 31 i (nI i)) 32 i 0) 29 i (n_pl i)) 28 1 (nI (i + 1))) 28 3 (nI (i + 1))).1 28 3 = nI (i + 1) := by rw [x_pI_1, if_pos ⟨rfl, rfl⟩]
    have e5 : (x_pI (x_pI (x_pI (x_pI (x_pI τ 31 i (nI i)) 32 i 0) 29 i (n_pl i)) 28 1 (nI (i + 1))) 28 3 (nI (i + 1))).1 28 1 = nI (i + 1) := by rw [x_pI_1, if_neg (by omega), x_pI_1, if_pos ⟨rfl, rfl⟩]
    rw [F_X1_beginLaw, rfX_28_4, rfX_28_5, h2, e_put, x_pT_nI _ _ (by rw [lnX_31]; exact hi), x_b_s, e_put, x_pT_nI _ _ (by rw [lnX_32]; exact hi), x_b_s, x_b_s, F_X1_begin_38, F_X1_addStep, rfX_28_0, e1, e_put, x_pT_nI _ _ (by rw [lnX_29]; omega), x_b_s, e2, nI_1, x_pt_s, x_b_s, F_X1_endPiece, e3, nI_1, x_pt_s, rfX_28_2, e4, e5, e_put, x_pT_nI _ _ (by rw [lnX_30]; omega), x_b_s, x_b_s]
  · have e : ∀ a b, ¬ (a = 31 ∧ b = i) → ¬ (a = 32 ∧ b = i) → ¬ (a = 29 ∧ b = i) → ¬ (a = 28 ∧ b = 1) → ¬ (a = 28 ∧ b = 3) → ¬ (a = 30 ∧ b = i + 1) → (x_pI (x_pI (x_pI (x_pI (x_pI (x_pI τ 31 i (nI i)) 32 i 0) 29 i (n_pl i)) 28 1 (nI (i + 1))) 28 3 (nI (i + 1))) 30 (i + 1) (nI (i + 1))).1 a b = τ.1 a b := fun a b q1 q2 q3 q4 q5 q6 => by
      rw [x_pI_1, if_neg q6, x_pI_1, if_neg q5, x_pI_1, if_neg q4, x_pI_1, if_neg q3, x_pI_1, if_neg q2, x_pI_1, if_neg q1]
    refine ⟨?_, ?_, fun j hj => ?_, fun k hk => ?_, fun a b q1 q2 => ?_, fun a b => ?_⟩
    · rw [x_pI_1, if_neg (by omega), x_pI_1, if_neg (by omega), x_pI_1, if_pos ⟨rfl, rfl⟩]
    · rw [x_pI_1, if_neg (by omega), x_pI_1, if_pos ⟨rfl, rfl⟩]
    · by_cases q : j = i + 1
      · rw [q, x_pI_1, if_pos ⟨rfl, rfl⟩]
      · rw [e _ _ (by omega) (by omega) (by omega) (by omega) (by omega) (by omega)]; exact h3 j (by omega)
    · by_cases q : k = i
      · subst q
        refine ⟨?_, ?_, ?_⟩
        · rw [x_pI_1, if_neg (by omega), x_pI_1, if_neg (by omega), x_pI_1, if_neg (by omega), x_pI_1, if_pos ⟨rfl, rfl⟩]
        · rw [x_pI_1, if_neg (by omega), x_pI_1, if_neg (by omega), x_pI_1, if_neg (by omega), x_pI_1, if_neg (by omega), x_pI_1, if_neg (by omega), x_pI_1, if_pos ⟨rfl, rfl⟩]
        · rw [x_pI_1, if_neg (by omega), x_pI_1, if_neg (by omega), x_pI_1, if_neg (by omega), x_pI_1, if_neg (by omega), x_pI_1, if_pos ⟨rfl, rfl⟩]; rfl
      · obtain ⟨u1, u2, u3⟩ := h4 k (by omega)
        refine ⟨?_, ?_, ?_⟩
        · rw [e _ _ (by omega) (by omega) (by omega) (by omega) (by omega) (by omega)]; exact u1
        · rw [e _ _ (by omega) (by omega) (by omega) (by omega) (by omega) (by omega)]; exact u2
        · rw [e _ _ (by omega) (by omega) (by omega) (by omega) (by omega) (by omega)]; exact u3
    · rw [e _ _ (by omega) (by omega) (by omega) (by omega) (by omega) (by omega)]; exact h5 a b q1 q2
    · rw [x_pI_2, x_pI_2, x_pI_2, x_pI_2, x_pI_2, x_pI_2]; exact h6 a b
theorem c_pl_loop {σ : x_Hp} : ∀ (d i f : Nat) (τ : x_Hp), i + d = 7 → d < f → c_pl i σ τ → ∃ ρ, F_X1_begin_12 f 28 (nI i) τ = some ((), ρ) ∧ c_pl 7 σ ρ
  | 0, i, f, τ, hi, hf, h => by
    obtain ⟨f, rfl⟩ := Nat.exists_eq_succ_of_ne_zero (show f ≠ 0 by omega)
    have : i = 7 := by omega
    subst this
    exact ⟨τ, by rw [F_X1_begin_12, if_pos (show (7 : Int32) ≤ nI 7 by decide)], h⟩
  | d + 1, i, f, τ, hi, hf, h => by
    obtain ⟨f, rfl⟩ := Nat.exists_eq_succ_of_ne_zero (show f ≠ 0 by omega)
    obtain ⟨ρ, r1, r2⟩ := c_pl_step (by omega) h (F_X1_begin_12 f)
    obtain ⟨ρ', s1, s2⟩ := c_pl_loop d (i + 1) f ρ (by omega) (by omega) r2
    refine ⟨ρ', ?_, s2⟩
    rw [F_X1_begin_12, if_neg (show ¬ (7 : Int32) ≤ nI i from nI_ge (b := 7) (by omega) (by decide))]
    rw [← s1, ← r1]
    congr 1
    funext _ σ3
    by_cases q0 : i = 0
    · subst q0; rw [if_pos (show nI 0 = (0 : Int32) from rfl)]; rfl
    rw [if_neg (show ¬ nI i = 0 from fun w => q0 ((nI_eq (b := 0) (by omega) (by decide)).mp w))]
    by_cases q1 : i = 1
    · subst q1; rw [if_pos (show nI 1 = (1 : Int32) from rfl)]; rfl
    rw [if_neg (show ¬ nI i = (1 : Int32) from fun w => q1 ((nI_eq (b := 1) (by omega) (by decide)).mp w)), n_pl, if_neg (by omega)]
/-- the class's text, told anew -/
def c_plain (σ τ : x_Hp) : Prop := (∀ k, k < 4 → τ.1 21 k = 0) ∧ τ.1 21 4 = 20 ∧ τ.1 21 5 = 30 ∧ τ.1 21 6 = 0 ∧ τ.1 21 7 = 0 ∧ τ.1 28 1 = nI 7 ∧ τ.1 28 3 = nI 7 ∧ (∀ j, j ≤ 7 → τ.1 30 j = nI j) ∧ (∀ k, k < 7 → τ.1 29 k = n_pl k ∧ τ.1 31 k = nI k ∧ τ.1 32 k = nI 0) ∧ (∀ a b, a ≠ 21 → ¬ (a = 28 ∧ (b = 1 ∨ b = 3)) → ¬ (29 ≤ a ∧ a ≤ 32 ∧ ¬ (a = 30 ∧ b = 0)) → τ.1 a b = σ.1 a b) ∧ ∀ a b, τ.2 a b = σ.2 a b
theorem c_begin {σ : x_Hp} (h30 : σ.1 30 0 = 0) : ∃ τ, F_X6_begin 21 σ = some ((), τ) ∧ c_plain σ τ := by
  have e : ∀ a b, a ≠ 21 → ¬ (a = 28 ∧ (b = 1 ∨ b = 3)) → (x_pI (x_pI (x_pI (x_pI (x_pI (x_pI (x_pI (x_pI (x_pI (x_pI σ 21 0 0) 21 1 0) 21 2 0) 21 3 0) 21 4 20) 21 5 30) 21 6 0) 21 7 0) 28 1 0) 28 3 0).1 a b = σ.1 a b := fun a b q1 q2 => by
    rw [x_pI_1, if_neg (by omega), x_pI_1, if_neg (by omega), x_pI_1, if_neg (by omega), x_pI_1, if_neg (by omega), x_pI_1, if_neg (by omega), x_pI_1, if_neg (by omega), x_pI_1, if_neg (by omega), x_pI_1, if_neg (by omega), x_pI_1, if_neg (by omega), x_pI_1, if_neg (by omega)]
  have h0 : c_pl 0 (x_pI (x_pI (x_pI (x_pI (x_pI (x_pI (x_pI (x_pI (x_pI (x_pI σ 21 0 0) 21 1 0) 21 2 0) 21 3 0) 21 4 20) 21 5 30) 21 6 0) 21 7 0) 28 1 0) 28 3 0) (x_pI (x_pI (x_pI (x_pI (x_pI (x_pI (x_pI (x_pI (x_pI (x_pI σ 21 0 0) 21 1 0) 21 2 0) 21 3 0) 21 4 20) 21 5 30) 21 6 0) 21 7 0) 28 1 0) 28 3 0) := by
    refine ⟨?_, ?_, fun j hj => ?_, fun k hk => by omega, fun _ _ _ _ => rfl, fun _ _ => rfl⟩
    · rw [x_pI_1, if_neg (by omega), x_pI_1, if_pos ⟨rfl, rfl⟩]; rfl
    · rw [x_pI_1, if_pos ⟨rfl, rfl⟩]; rfl
    · rw [show j = 0 by omega, e _ _ (by omega) (by omega)]; exact h30
  obtain ⟨ρ, r1, ⟨s1, s2, s3, s4, s5, s6⟩⟩ := c_pl_loop 7 0 x_fuel _ rfl (by rw [x_fuel]; omega) h0
  refine ⟨ρ, ?_, fun k hk => ?_, ?_, ?_, ?_, ?_, s1, s2, s3, s4, fun a b q1 q2 q3 => ?_, fun a b => ?_⟩
  · have r1' : F_X1_begin_12 x_fuel 28 0 (x_pI (x_pI (x_pI (x_pI (x_pI (x_pI (x_pI (x_pI (x_pI (x_pI σ 21 0 0) 21 1 0) 21 2 0) 21 3 0) 21 4 20) 21 5 30) 21 6 0) 21 7 0) 28 1 0) 28 3 0) = some ((), ρ) := r1
    rw [F_X6_begin, F_X6_tellBaby, x_pt_s, x_pt_s, x_pt_s, x_pt_s, x_b_s, x_pt_s, x_pt_s, x_pt_s, x_pt_s, rfX_21_14, F_X1_begin, x_pt_s, x_pt_s, r1', x_b_s]
  · rw [s5 _ _ (by omega) (by omega), x_pI_1, if_neg (by omega), x_pI_1, if_neg (by omega), x_pI_1, if_neg (by omega), x_pI_1, if_neg (by omega), x_pI_1, if_neg (by omega), x_pI_1, if_neg (by omega)]
    have : k = 0 ∨ k = 1 ∨ k = 2 ∨ k = 3 := by omega
    rcases this with rfl | rfl | rfl | rfl <;> rfl
  · rw [s5 _ _ (by omega) (by omega)]; rfl
  · rw [s5 _ _ (by omega) (by omega)]; rfl
  · rw [s5 _ _ (by omega) (by omega)]; rfl
  · rw [s5 _ _ (by omega) (by omega)]; rfl
  · rw [s5 _ _ q2 q3]; exact e _ _ q1 q2
  · rw [s6]; rfl
/-- the reference's -/
def y_plf (sd : Nat) (μ ν : x_Hp) : Prop := (∀ a b, ¬ (a = 9 ∧ 4 * sd ≤ b ∧ b < 4 * sd + 4) → ¬ ((a = 10 ∨ (16 ≤ a ∧ a ≤ 18)) ∧ b = sd) → ¬ (19 ≤ a ∧ a ≤ 20 ∧ 7 * sd ≤ b ∧ b < 7 * sd + 7) → ν.1 a b = μ.1 a b) ∧ ∀ a b, ν.2 a b = μ.2 a b
def y_plain (sd : Nat) (μ ν : x_Hp) : Prop := (∀ k, k < 4 → ν.1 9 (4 * sd + k) = 0) ∧ ν.1 10 sd = 0 ∧ ν.1 16 sd = 20 ∧ ν.1 17 sd = 30 ∧ ν.1 18 sd = 0 ∧ (∀ k, k < 7 → ν.1 19 (7 * sd + k) = 0 ∧ ν.1 20 (7 * sd + k) = 0) ∧ y_plf sd μ ν
theorem y_56 {sd : Nat} (hsd : sd < 2) : ∀ (d i f : Nat) (μ : x_Hp), i + d = 7 → d < f → (∀ k, k < i → μ.1 19 (7 * sd + k) = 0 ∧ μ.1 20 (7 * sd + k) = 0) → ∃ ν, F_X9_plain_56 f (nI sd) (nI i) μ = some ((), ν) ∧ (∀ k, k < 7 → ν.1 19 (7 * sd + k) = 0 ∧ ν.1 20 (7 * sd + k) = 0) ∧ (∀ a b, ¬ (19 ≤ a ∧ a ≤ 20 ∧ 7 * sd ≤ b ∧ b < 7 * sd + 7) → ν.1 a b = μ.1 a b) ∧ ∀ a b, ν.2 a b = μ.2 a b
  | 0, i, f, μ, hi, hf, h => by
    obtain ⟨f, rfl⟩ := Nat.exists_eq_succ_of_ne_zero (show f ≠ 0 by omega)
    have : i = 7 := by omega
    subst this
    exact ⟨μ, by rw [F_X9_plain_56, if_pos (show (7 : Int32) ≤ nI 7 by decide)], h, fun _ _ _ => rfl, fun _ _ => rfl⟩
  | d + 1, i, f, μ, hi, hf, h => by
    obtain ⟨f, rfl⟩ := Nat.exists_eq_succ_of_ne_zero (show f ≠ 0 by omega)
    have ix : (7 : Int32) * nI sd + nI i = nI (7 * sd + i) := by rw [show (7 : Int32) * nI sd = nI (7 * sd) from pk_mul 7 _, nI_add]
    obtain ⟨ν, r1, r2, r3, r4⟩ := y_56 hsd d (i + 1) f (x_pI (x_pI μ 19 (7 * sd + i) 0) 20 (7 * sd + i) 0) (by omega) (by omega) (fun k hk => by
      by_cases q : k = i
      · subst q; exact ⟨by rw [x_pI_1, if_neg (by omega), x_pI_1, if_pos ⟨rfl, rfl⟩], by rw [x_pI_1, if_pos ⟨rfl, rfl⟩]⟩
      · rw [x_pI_1, if_neg (by omega), x_pI_1, if_neg (by omega), x_pI_1, if_neg (by omega), x_pI_1, if_neg (by omega)]; exact h k (by omega))
    refine ⟨ν, ?_, r2, fun a b q => ?_, fun a b => by rw [r4]; rfl⟩
    · rw [F_X9_plain_56, if_neg (show ¬ (7 : Int32) ≤ nI i from nI_ge (b := 7) (by omega) (by decide)), ix, x_gd_t (x_inb_nI (by omega) (by decide)), x_ix_nI (by omega), x_pt_s, x_gd_t (x_inb_nI (by omega) (by decide)), x_pt_s, nI_1, r1]
    · rw [r3 a b q, x_pI_1, if_neg (by omega), x_pI_1, if_neg (by omega)]
theorem y_plain_run {sd : Nat} (hsd : sd < 2) (μ : x_Hp) : ∃ ν, F_X9_plain (nI sd) μ = some ((), ν) ∧ y_plain sd μ ν := by
  obtain ⟨n, e⟩ := y_fill0 (F := fun n i μ => F_X9_plain_2 n (nI sd) i μ) (r := 9) (b := 4 * sd) (L := 4) (by decide) (f := fun _ => 0) (P := fun _ ν => True) (fun i σ hi hp => trivial) (fun n i σ hi hp => by
    have ix : (4 : Int32) * nI sd + nI i = nI (4 * sd + i) := by rw [show (4 : Int32) * nI sd = nI (4 * sd) from pk_mul 4 _, nI_add]
    rw [F_X9_plain_2, if_neg (show ¬ (4 : Int32) ≤ nI i from nI_ge (b := 4) hi (by decide)), ix, x_gd_t (x_inb_nI (by omega) (by decide)), x_pt_s, x_ix_nI (by omega), nI_1]) (σ := μ) trivial
  have ro : ∀ a b, ¬ (a = 9 ∧ 4 * sd ≤ b ∧ b < 4 * sd + 4) → (y_fl μ 9 (4 * sd) 4 (fun _ => 0) 0).1 a b = μ.1 a b := fun a b q => y_fl_o _ _ _ _ _ (by omega)
  have ri : ∀ k, k < 4 → (y_fl μ 9 (4 * sd) 4 (fun _ => 0) 0).1 9 (4 * sd + k) = 0 := fun k hk => y_fl_in _ _ _ _ _ hk
  have r2 : ∀ a b, (y_fl μ 9 (4 * sd) 4 (fun _ => 0) 0).2 a b = μ.2 a b := fun a b => rfl
  rw [F_X9_plain, e, F_X9_plain_2, if_pos (show (4 : Int32) ≤ nI 4 by decide)]
  generalize y_fl μ 9 (4 * sd) 4 (fun _ => 0) 0 = ρ at ro ri r2
  have hi : x_inb (nI sd) 2 = true := x_inb_nI hsd (by decide)
  rw [x_gd_t hi, x_pt_s, x_gd_t hi, x_pt_s, x_gd_t hi, x_pt_s, x_gd_t hi, x_pt_s, x_ix_nI (by omega)]
  obtain ⟨ν, s1, s2, s3, s4⟩ := y_56 hsd 7 0 x_fuel (x_pI (x_pI (x_pI (x_pI ρ 10 sd 0) 16 sd 20) 17 sd 30) 18 sd 0) rfl (by rw [x_fuel]; omega) (fun k hk => by omega)
  refine ⟨ν, s1, fun k hk => ?_, ?_, ?_, ?_, ?_, s2, fun a b q1 q2 q3 => ?_, fun a b => ?_⟩
  · rw [s3 _ _ (by omega), x_pI_1, if_neg (by omega), x_pI_1, if_neg (by omega), x_pI_1, if_neg (by omega), x_pI_1, if_neg (by omega)]; exact ri k hk
  · rw [s3 _ _ (by omega), x_pI_1, if_neg (by omega), x_pI_1, if_neg (by omega), x_pI_1, if_neg (by omega), x_pI_1, if_pos ⟨rfl, rfl⟩]
  · rw [s3 _ _ (by omega), x_pI_1, if_neg (by omega), x_pI_1, if_neg (by omega), x_pI_1, if_pos ⟨rfl, rfl⟩]
  · rw [s3 _ _ (by omega), x_pI_1, if_neg (by omega), x_pI_1, if_pos ⟨rfl, rfl⟩]
  · rw [s3 _ _ (by omega), x_pI_1, if_pos ⟨rfl, rfl⟩]
  · rw [s3 _ _ q3, x_pI_1, if_neg (by omega), x_pI_1, if_neg (by omega), x_pI_1, if_neg (by omega), x_pI_1, if_neg (by omega)]; exact ro a b q1
  · rw [s4, x_pI_2, x_pI_2, x_pI_2, x_pI_2]; exact r2 a b
