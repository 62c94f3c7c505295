/-! READING: the reference behind a fault: it runs on and does no harm -/
/-- what the reading may write, the reference -/
def y_Fs (sd a b : Nat) : Prop := (a = 0 ∧ ((11 ≤ b ∧ b ≤ 16) ∨ b = 20 ∨ b = 34 ∨ b = 40 ∨ b = 44)) ∨ (a = 9 ∧ 4 * sd ≤ b ∧ b < 4 * sd + 4) ∨ (a = 10 ∧ b = sd) ∨ (11 ≤ a ∧ a ≤ 15 ∧ 6 * sd ≤ b ∧ b < 6 * sd + 6) ∨ (16 ≤ a ∧ a ≤ 18 ∧ b = sd) ∨ (19 ≤ a ∧ a ≤ 20 ∧ 7 * sd ≤ b ∧ b < 7 * sd + 7) ∨ (21 ≤ a ∧ a ≤ 25 ∧ 130 * sd ≤ b ∧ b < 130 * sd + 130) ∨ (26 ≤ a ∧ a ≤ 27 ∧ 420 * sd ≤ b ∧ b < 420 * sd + 420) ∨ a = 28
def y_F (sd : Nat) (μ0 μ : x_Hp) : Prop := (∀ a b, ¬ y_Fs sd a b → μ.1 a b = μ0.1 a b) ∧ ∀ a b, a ≠ 8 → μ.2 a b = μ0.2 a b
/-- what the reading may write, the class -/
def c_F (σ0 σ : x_Hp) : Prop := (∀ a b, ¬ ((a = 14 ∧ (b = 6 ∨ b = 9 ∨ b = 10 ∨ b = 11)) ∨ (19 ≤ a ∧ a ≤ 32 ∧ ¬ (a = 30 ∧ b = 0))) → σ.1 a b = σ0.1 a b) ∧ ∀ a b, a ≠ 22 → σ.2 a b = σ0.2 a b
theorem y_F.pI {sd : Nat} {μ0 μ : x_Hp} (h : y_F sd μ0 μ) {a b : Nat} (q : y_Fs sd a b) (x : Int32) : y_F sd μ0 (x_pI μ a b x) :=
  ⟨fun c d z => by rw [x_pI_1, if_neg (fun w : c = a ∧ d = b => z (by rw [w.1, w.2]; exact q))]; exact h.1 c d z, h.2⟩
theorem c_F.pI {σ0 σ : x_Hp} (h : c_F σ0 σ) {a b : Nat} (q : (a = 14 ∧ (b = 6 ∨ b = 9 ∨ b = 10 ∨ b = 11)) ∨ (19 ≤ a ∧ a ≤ 32 ∧ ¬ (a = 30 ∧ b = 0))) (x : Int32) : c_F σ0 (x_pI σ a b x) :=
  ⟨fun c d z => by rw [x_pI_1, if_neg (fun w => z (by rw [w.1, w.2]; exact q))]; exact h.1 c d z, h.2⟩
def y_X (sd : Nat) (μ0 : x_Hp) (k pl : Nat) (B : Nat) (μ : x_Hp) : Prop := (y_F sd μ0 μ) ∧ (sd < 2) ∧ (k = 1 ∨ k = 2) ∧ (μ.1 0 13 = nI k) ∧ (μ.1 0 14 = nI pl) ∧ (μ.1 0 19 = nI sd) ∧ (∃ t, t ≤ 400 ∧ μ.1 0 11 = nI t) ∧ (∃ b, 130 * sd ≤ b ∧ b ≤ 130 * sd + B ∧ μ.1 0 34 = nI b) ∧ (∃ w c, w ≤ 40 ∧ μ.1 0 44 = nI w ∧ 420 * sd ≤ c ∧ c + w ≤ 420 * sd + 419 ∧ μ.1 0 40 = nI c)
theorem y_X.fr {sd k pl B : Nat} {μ0 μ : x_Hp} (h : y_X sd μ0 k pl B μ) : y_F sd μ0 μ := h.1
theorem y_X.sdl {sd k pl B : Nat} {μ0 μ : x_Hp} (h : y_X sd μ0 k pl B μ) : sd < 2 := h.2.1
theorem y_X.hk {sd k pl B : Nat} {μ0 μ : x_Hp} (h : y_X sd μ0 k pl B μ) : k = 1 ∨ k = 2 := h.2.2.1
theorem y_X.e13 {sd k pl B : Nat} {μ0 μ : x_Hp} (h : y_X sd μ0 k pl B μ) : μ.1 0 13 = nI k := h.2.2.2.1
theorem y_X.e14 {sd k pl B : Nat} {μ0 μ : x_Hp} (h : y_X sd μ0 k pl B μ) : μ.1 0 14 = nI pl := h.2.2.2.2.1
theorem y_X.e19 {sd k pl B : Nat} {μ0 μ : x_Hp} (h : y_X sd μ0 k pl B μ) : μ.1 0 19 = nI sd := h.2.2.2.2.2.1
theorem y_X.ht {sd k pl B : Nat} {μ0 μ : x_Hp} (h : y_X sd μ0 k pl B μ) : ∃ t, t ≤ 400 ∧ μ.1 0 11 = nI t := h.2.2.2.2.2.2.1
theorem y_X.hb {sd k pl B : Nat} {μ0 μ : x_Hp} (h : y_X sd μ0 k pl B μ) : ∃ b, 130 * sd ≤ b ∧ b ≤ 130 * sd + B ∧ μ.1 0 34 = nI b := h.2.2.2.2.2.2.2.1
theorem y_X.hw {sd k pl B : Nat} {μ0 μ : x_Hp} (h : y_X sd μ0 k pl B μ) : ∃ w c, w ≤ 40 ∧ μ.1 0 44 = nI w ∧ 420 * sd ≤ c ∧ c + w ≤ 420 * sd + 419 ∧ μ.1 0 40 = nI c := h.2.2.2.2.2.2.2.2
section BAD
variable {sd k pl B : Nat} {μ0 μ : x_Hp}
theorem y_X.mono (h : y_X sd μ0 k pl B μ) {C : Nat} (q : B ≤ C) : y_X sd μ0 k pl C μ := by
  obtain ⟨b, b1, b2, b3⟩ := h.hb
  exact ⟨h.fr, h.sdl, h.hk, h.e13, h.e14, h.e19, h.ht, ⟨b, b1, by omega, b3⟩, h.hw⟩
theorem y_X.n0 (h : y_X sd μ0 k pl B μ) : ¬ μ.1 0 13 = 0 := by
  rw [h.e13]; rcases h.hk with q | q <;> rw [q] <;> decide
theorem y_X.p0 (h : y_X sd μ0 k pl B μ) : (0 : Int32) < μ.1 0 13 := by
  rw [h.e13]; rcases h.hk with q | q <;> rw [q] <;> decide
theorem y_X.le0 (h : y_X sd μ0 k pl B μ) : ¬ μ.1 0 13 ≤ 0 := by
  rw [h.e13]; rcases h.hk with q | q <;> rw [q] <;> decide
theorem y_X.pI (h : y_X sd μ0 k pl B μ) {a b : Nat} (q : y_Fs sd a b) (q2 : a = 0 → b = 12 ∨ b = 20) (x : Int32) : y_X sd μ0 k pl B (x_pI μ a b x) := by
  have e : ∀ d, d ≠ 12 → d ≠ 20 → (x_pI μ a b x).1 0 d = μ.1 0 d := fun d d1 d2 => by
    rw [x_pI_1, if_neg (fun z => by have := q2 z.1.symm; omega)]
  obtain ⟨w, c, w1, w2, w3, w4, w5⟩ := h.hw
  obtain ⟨t, t1, t2⟩ := h.ht
  obtain ⟨b', b1, b2, b3⟩ := h.hb
  exact ⟨h.fr.pI q x, h.sdl, h.hk, by rw [e 13 (by decide) (by decide)]; exact h.e13, by rw [e 14 (by decide) (by decide)]; exact h.e14, by rw [e 19 (by decide) (by decide)]; exact h.e19, ⟨t, t1, by rw [e 11 (by decide) (by decide)]; exact t2⟩, ⟨b', b1, b2, by rw [e 34 (by decide) (by decide)]; exact b3⟩, w, c, w1, by rw [e 44 (by decide) (by decide)]; exact w2, w3, w4, by rw [e 40 (by decide) (by decide)]; exact w5⟩
theorem y_X.is (h : y_X sd μ0 k pl B μ) (x : Int32) : F_X9_is x μ = some (0, μ) := by
  rw [F_X9_is, if_neg h.n0]
theorem y_X.fail (h : y_X sd μ0 k pl B μ) (x : Int32) : F_X9_fail x μ = some ((), μ) := by
  rw [F_X9_fail, if_neg h.le0]
theorem y_X.must (h : y_X sd μ0 k pl B μ) (x : Int32) : F_X9_must x μ = some ((), μ) := by
  rw [F_X9_must, h.is, x_b_s, if_pos rfl, h.fail, x_b_s]
theorem y_X.bounded (h : y_X sd μ0 k pl B μ) (x1 x2 : Int32) : F_X9_bounded x1 x2 μ = some (x1, μ) := by
  rw [F_X9_bounded, if_pos h.p0, F_X9_bounded_15, h.fail, x_b_s]
theorem y_X.goes (h : y_X sd μ0 k pl B μ) : ∃ ν, F_X9_goesOn μ = some ((), ν) ∧ y_X sd μ0 k pl B ν := by
  obtain ⟨t, t1, t2⟩ := h.ht
  rw [F_X9_goesOn]
  by_cases q : μ.1 0 11 = 400
  · rw [if_pos q, h.fail, x_b_s]; exact ⟨μ, rfl, h⟩
  · rw [if_neg q, x_pt_s, t2, nI_1]
    have ht : t < 400 := by
      rcases Nat.lt_or_eq_of_le t1 with z | z
      · exact z
      · exact absurd (by rw [t2, z]; rfl) q
    have e : ∀ d, d ≠ 11 → (x_pI μ 0 11 (nI (t + 1))).1 0 d = μ.1 0 d := fun d d1 => by
      rw [x_pI_1, if_neg (fun z => d1 z.2)]
    obtain ⟨w, c, w1, w2, w3, w4, w5⟩ := h.hw
    obtain ⟨b', b1, b2, b3⟩ := h.hb
    exact ⟨_, rfl, h.fr.pI (by unfold y_Fs; omega) _, h.sdl, h.hk, by rw [e 13 (by decide)]; exact h.e13, by rw [e 14 (by decide)]; exact h.e14, by rw [e 19 (by decide)]; exact h.e19, ⟨t + 1, ht, by rw [x_pI_1, if_pos ⟨rfl, rfl⟩]⟩, ⟨b', b1, b2, by rw [e 34 (by decide)]; exact b3⟩, w, c, w1, by rw [e 44 (by decide)]; exact w2, w3, w4, by rw [e 40 (by decide)]; exact w5⟩
/-- the operations that wait come out -/
theorem y_X.out (x1 : Int32) : ∀ (w c f : Nat) (μ : x_Hp), y_X sd μ0 k pl B μ → μ.1 0 44 = nI w → μ.1 0 40 = nI c → w ≤ 40 → 420 * sd ≤ c → c + w ≤ 420 * sd + 419 → w < f → ∃ ν, F_X9_comesOut_0 f x1 μ = some ((), ν) ∧ y_X sd μ0 k pl B ν
  | 0, c, f, μ, h, e1, e2, w1, c1, c2, hf => by
    obtain ⟨f, rfl⟩ := Nat.exists_eq_succ_of_ne_zero (show f ≠ 0 by omega)
    rw [F_X9_comesOut_0, e1, if_pos (by decide)]
    exact ⟨μ, rfl, h⟩
  | w + 1, c, f, μ, h, e1, e2, w1, c1, c2, hf => by
    obtain ⟨f, rfl⟩ := Nat.exists_eq_succ_of_ne_zero (show f ≠ 0 by omega)
    have hsd := h.sdl
    have em : nI (w + 1) - (1 : Int32) = nI w := by rw [show (1 : Int32) = nI 1 from rfl, pk_sub (by omega)]; rfl
    have go : ∀ x2 : Int32, ∃ ν, F_X9_comesOut_42 (F_X9_comesOut_0 f) x1 x2 μ = some ((), ν) ∧ y_X sd μ0 k pl B ν := by
      intro x2
      have k84 : ∀ s : Int32, ∃ ν, F_X9_comesOut_84 (F_X9_comesOut_0 f) x1 s (x_pI μ 0 44 (nI w)) = some ((), ν) ∧ y_X sd μ0 k pl B ν := by
        intro s
        have r : ∀ (ρ : x_Hp) (a b : Nat) (x : Int32), ρ.1 0 40 = nI c → a ≠ 0 → (x_pI ρ a b x).1 0 40 = nI c := fun ρ a b x h1 h2 => by rw [x_pI_1, if_neg (by omega)]; exact h1
        have r0 : (x_pI μ 0 44 (nI w)).1 0 40 = nI c := by rw [x_pI_1, if_neg (by decide)]; exact e2
        have r1 := r _ 26 c s r0 (by decide)
        have r2 := r _ 27 c 0 r1 (by decide)
        have hi : x_inb (nI c) 840 = true := x_inb_nI (by omega) (by decide)
        rw [F_X9_comesOut_84, F_X9_emit, r0, x_gd_t hi, x_pt_s, x_ix_nI (by omega), r1, x_gd_t hi, x_pt_s, x_ix_nI (by omega), x_pt_s, r2, nI_1, x_b_s]
        have e : ∀ d, d ≠ 40 → d ≠ 44 → (x_pI (x_pI (x_pI (x_pI μ 0 44 (nI w)) 26 c s) 27 c 0) 0 40 (nI (c + 1))).1 0 d = μ.1 0 d := fun d d1 d2 => by
          rw [x_pI_1, if_neg (by omega), x_pI_1, if_neg (by omega), x_pI_1, if_neg (by omega), x_pI_1, if_neg (by omega)]
        have g44 : (x_pI (x_pI (x_pI (x_pI μ 0 44 (nI w)) 26 c s) 27 c 0) 0 40 (nI (c + 1))).1 0 44 = nI w := by
          rw [x_pI_1, if_neg (by omega), x_pI_1, if_neg (by omega), x_pI_1, if_neg (by omega), x_pI_1, if_pos ⟨rfl, rfl⟩]
        have g40 : (x_pI (x_pI (x_pI (x_pI μ 0 44 (nI w)) 26 c s) 27 c 0) 0 40 (nI (c + 1))).1 0 40 = nI (c + 1) := by
          rw [x_pI_1, if_pos ⟨rfl, rfl⟩]
        obtain ⟨t, t1, t2⟩ := h.ht
        obtain ⟨b', b1, b2, b3⟩ := h.hb
        exact y_X.out x1 w (c + 1) f _ ⟨(((h.fr.pI (by unfold y_Fs; omega) _).pI (by unfold y_Fs; omega) _).pI (by unfold y_Fs; omega) _).pI (by unfold y_Fs; omega) _, h.sdl, h.hk, by rw [e 13 (by decide) (by decide)]; exact h.e13, by rw [e 14 (by decide) (by decide)]; exact h.e14, by rw [e 19 (by decide) (by decide)]; exact h.e19, ⟨t, t1, by rw [e 11 (by decide) (by decide)]; exact t2⟩, ⟨b', b1, b2, by rw [e 34 (by decide) (by decide)]; exact b3⟩, w, c + 1, by omega, g44, by omega, by omega, g40⟩ g44 g40 (by omega) (by omega) (by omega) (by omega)
      rw [F_X9_comesOut_42, e1, em, x_pt_s]
      by_cases a1 : x2 = 8
      · rw [if_pos a1]; exact k84 2
      rw [if_neg a1]
      by_cases a2 : x2 = 9
      · rw [if_pos a2]; exact k84 3
      rw [if_neg a2]
      by_cases a3 : x2 = 10
      · rw [if_pos a3]; exact k84 4
      rw [if_neg a3]; exact k84 5
    rw [F_X9_comesOut_0, e1, if_neg (show ¬ nI (w + 1) ≤ (0 : Int32) from nI_ge (b := w + 1) (a := 0) (by omega) (by omega)), em, x_gd_t (x_inb_nI (by omega) (by decide)), x_ix_nI (by omega)]
    by_cases a1 : μ.1 28 w = 6
    · rw [if_pos a1]; exact ⟨μ, rfl, h⟩
    rw [if_neg a1]
    by_cases a2 : x1 = 0
    · rw [if_pos a2]; exact go _
    rw [if_neg a2]
    by_cases a3 : μ.1 28 w = 8
    · rw [if_pos a3]; exact ⟨μ, rfl, h⟩
    rw [if_neg a3]
    by_cases a4 : μ.1 28 w = 9
    · rw [if_pos a4]; exact ⟨μ, rfl, h⟩
    rw [if_neg a4]; exact go _
theorem y_X.comes (h : y_X sd μ0 k pl B μ) (x1 : Int32) : ∃ ν, F_X9_comesOut x1 μ = some ((), ν) ∧ y_X sd μ0 k pl B ν := by
  obtain ⟨w, c, w1, w2, w3, w4, w5⟩ := h.hw
  exact y_X.out x1 w c x_fuel μ h w2 w5 w1 w3 w4 (by rw [x_fuel]; omega)
/-- the expression's places, behind a fault -/
theorem y_X.x12 (h : y_X sd μ0 k pl B μ) (f : Nat) (x1 x2 : Int32) : F_X9_expression_12 (f + 1) x1 x2 μ = some ((), μ) := by
  rw [F_X9_expression_12]
  by_cases q : x2 = 0
  · rw [if_pos q]
  · rw [if_neg q, if_neg h.n0]
theorem y_X.x204 (h : y_X sd μ0 k pl B μ) : ∃ ν, F_X9_expression_204 μ = some ((), ν) ∧ y_X sd μ0 k pl B ν := by
  obtain ⟨ν, a, b⟩ := h.comes 0
  exact ⟨ν, by rw [F_X9_expression_204, a, x_b_s], b⟩
theorem y_X.x96 (h : y_X sd μ0 k pl B μ) (K : Int32 → Int32 → x_Hp → Option (Unit × x_Hp)) (f : Nat) (x1 : Int32) : ∃ ν, F_X9_expression_96 K (f + 1) x1 μ = some ((), ν) ∧ y_X sd μ0 k pl B ν := by
  obtain ⟨ν, a, b⟩ := h.x204
  refine ⟨ν, ?_, b⟩
  rw [F_X9_expression_96, h.is, x_b_s, if_pos rfl, F_X9_expression_145, h.is, x_b_s, if_pos rfl, h.is, x_b_s, if_pos rfl, h.is, x_b_s, if_pos rfl, h.is, x_b_s, if_pos rfl, F_X9_expression_186, if_pos rfl, h.fail, x_b_s, a]
  split <;> rfl
theorem y_X.x23 (h : y_X sd μ0 k pl B μ) (K : Int32 → Int32 → x_Hp → Option (Unit × x_Hp)) (f : Nat) (x1 : Int32) : F_X9_expression_23 K (f + 1) x1 μ = some ((), μ) := by
  rw [F_X9_expression_23, h.is, x_b_s, if_pos rfl, F_X9_unit, h.is, x_b_s, if_pos rfl, if_neg h.n0, F_X9_unit_88, h.fail, x_b_s, x_b_s, if_neg h.le0]
theorem y_X.push (b : y_X sd μ0 k pl B μ) {w c : Nat} (w1 : w < 40) (w2 : μ.1 0 44 = nI w) (w3 : 420 * sd ≤ c) (w4 : c + w < 420 * sd + 419) (w5 : μ.1 0 40 = nI c) (x : Int32) : y_X sd μ0 k pl B (x_pI (x_pI μ 28 w x) 0 44 (nI (w + 1))) := by
  have e : ∀ d, d ≠ 44 → (x_pI (x_pI μ 28 w x) 0 44 (nI (w + 1))).1 0 d = μ.1 0 d := fun d d1 => by
    rw [x_pI_1, if_neg (by omega), x_pI_1, if_neg (by omega)]
  obtain ⟨t, t1, t2⟩ := b.ht
  obtain ⟨b', b1, b2, b3⟩ := b.hb
  exact ⟨(b.fr.pI (by unfold y_Fs; omega) _).pI (by unfold y_Fs; omega) _, b.sdl, b.hk, by rw [e 13 (by decide)]; exact b.e13, by rw [e 14 (by decide)]; exact b.e14, by rw [e 19 (by decide)]; exact b.e19, ⟨t, t1, by rw [e 11 (by decide)]; exact t2⟩, ⟨b', b1, b2, by rw [e 34 (by decide)]; exact b3⟩, w + 1, c, by omega, by rw [x_pI_1, if_pos ⟨rfl, rfl⟩], w3, by omega, by rw [e 40 (by decide)]; exact w5⟩
theorem y_X.goes44 (h : y_X sd μ0 k pl B μ) : ∃ ν, F_X9_goesOn μ = some ((), ν) ∧ y_X sd μ0 k pl B ν ∧ ν.1 0 44 = μ.1 0 44 ∧ ν.1 0 40 = μ.1 0 40 := by
  obtain ⟨ν, a, b⟩ := h.goes
  refine ⟨ν, a, b, ?_⟩
  rw [F_X9_goesOn] at a
  by_cases q : μ.1 0 11 = 400
  · rw [if_pos q, h.fail, x_b_s] at a
    cases a
    exact ⟨rfl, rfl⟩
  · rw [if_neg q, x_pt_s] at a
    cases a
    exact ⟨by rw [x_pI_1, if_neg (by decide)], by rw [x_pI_1, if_neg (by decide)]⟩
/-- behind the step over the opening sign -/
theorem y_X.open2 (b : y_X sd μ0 k pl B μ) {w c : Nat} (w1 : w < 40) (w2 : μ.1 0 44 = nI w) (w3 : 420 * sd ≤ c) (w4 : c + w < 420 * sd + 419) (w5 : μ.1 0 40 = nI c) (K : Int32 → Int32 → x_Hp → Option (Unit × x_Hp)) (f : Nat) (x1 : Int32) : ∃ ν, (x_gd (x_inb (μ.1 0 44) 64) <| x_pt (x_pI μ 28 (x_ix (μ.1 0 44)) (6 : Int32)) fun σ13 => x_pt (x_pI σ13 0 44 ((σ13.1 0 44) + (1 : Int32))) fun σ14 => F_X9_expression_23 K (f + 1) x1 σ14) = some ((), ν) ∧ y_X sd μ0 k pl B ν := by
  have b2 := b.push w1 w2 w3 w4 w5 6
  refine ⟨_, ?_, b2⟩
  rw [w2, x_gd_t (x_inb_nI (by omega) (by decide)), x_pt_s, x_ix_nI (by omega), x_pt_s, x_pI_1, if_neg (by omega), w2, nI_1]
  exact b2.x23 _ _ _
theorem y_X.x46 (h : y_X sd μ0 k pl B μ) {w c : Nat} (w1 : w < 40) (w2 : μ.1 0 44 = nI w) (w3 : 420 * sd ≤ c) (w4 : c + w < 420 * sd + 419) (w5 : μ.1 0 40 = nI c) (K : Int32 → Int32 → x_Hp → Option (Unit × x_Hp)) (f : Nat) (x1 : Int32) : ∃ ν, F_X9_expression_46 K (F_X9_expression_23 K (f + 1)) x1 μ = some ((), ν) ∧ y_X sd μ0 k pl B ν := by
  have h1 : y_X sd μ0 k pl B (x_pI μ 0 12 (μ.1 0 12 + 1)) := h.pI (by unfold y_Fs; omega) (by omega) _
  obtain ⟨ν, a, b, e1, e2⟩ := h1.goes44
  rw [F_X9_expression_46, x_pt_s, a, x_b_s]
  exact b.open2 w1 (by rw [e1, x_pI_1, if_neg (by decide)]; exact w2) w3 w4 (by rw [e2, x_pI_1, if_neg (by decide)]; exact w5) K f x1
/-- a term, a law's end, behind a fault: a branch more -/
theorem y_X.br1 (h : y_X sd μ0 k pl B μ) (hB : B < 129) {b : Nat} (b1 : 130 * sd ≤ b) (b2 : b ≤ 130 * sd + B) (ν : x_Hp) (hf : y_F sd μ0 ν) (e : ∀ d, d ≠ 34 → ν.1 0 d = μ.1 0 d) (e34 : ν.1 0 34 = nI (b + 1)) : y_X sd μ0 k pl (B + 1) ν := by
  obtain ⟨t, t1, t2⟩ := h.ht
  obtain ⟨w, c, w1, w2, w3, w4, w5⟩ := h.hw
  exact ⟨hf, h.sdl, h.hk, by rw [e 13 (by decide)]; exact h.e13, by rw [e 14 (by decide)]; exact h.e14, by rw [e 19 (by decide)]; exact h.e19, ⟨t, t1, by rw [e 11 (by decide)]; exact t2⟩, ⟨b + 1, by omega, by omega, e34⟩, w, c, w1, by rw [e 44 (by decide)]; exact w2, w3, w4, by rw [e 40 (by decide)]; exact w5⟩
theorem y_X.term24 (h : y_X sd μ0 k pl B μ) (hB : B < 129) : ∃ ν, F_X9_term_24 μ = some ((), ν) ∧ y_X sd μ0 k pl (B + 1) ν := by
  obtain ⟨b, b1, b2, b3⟩ := h.hb
  have hsd := h.sdl
  rw [F_X9_term_24, b3, x_gd_t (x_inb_nI (by omega) (by decide)), x_pt_s, x_ix_nI (by omega), x_pt_s, x_pI_1, if_neg (by omega), b3, nI_1]
  exact ⟨_, rfl, h.br1 hB b1 b2 _ ((h.fr.pI (by unfold y_Fs; omega) _).pI (by unfold y_Fs; omega) _) (fun d d1 => by rw [x_pI_1, if_neg (by omega), x_pI_1, if_neg (by omega)]) (by rw [x_pI_1, if_pos ⟨rfl, rfl⟩])⟩
theorem y_X.term (h : y_X sd μ0 k pl B μ) (hB : B < 129) : ∃ ν, F_X9_term μ = some ((), ν) ∧ y_X sd μ0 k pl (B + 1) ν := by
  obtain ⟨b, b1, b2, b3⟩ := h.hb
  have hsd := h.sdl
  have h2 : y_X sd μ0 k pl B (x_pI μ 24 b (μ.1 0 40)) := h.pI (by unfold y_Fs; omega) (by omega) _
  rw [F_X9_term, b3, x_gd_t (x_inb_nI (by omega) (by decide)), x_pt_s, x_ix_nI (by omega), if_neg h2.n0]
  exact h2.term24 hB
theorem y_X.law129 (h : y_X sd μ0 k pl B μ) (hB : B < 129) (x1 x2 : Int32) : ∃ ν, F_X9_tellLaw_129 x1 x2 μ = some ((), ν) ∧ y_X sd μ0 k pl (B + 1) ν := by
  obtain ⟨b, b1, b2, b3⟩ := h.hb
  have hsd := h.sdl
  have h2 : y_X sd μ0 k pl B (x_pI μ 21 b (vp_nar .boolean (0 : Int32))) := h.pI (by unfold y_Fs; omega) (by omega) _
  obtain ⟨ν, r1, r2⟩ := h2.term hB
  rw [F_X9_tellLaw_129, b3, x_gd_t (x_inb_nI (by omega) (by decide)), x_pt_s, x_ix_nI (by omega), r1, x_b_s, r2.must, x_b_s, if_neg r2.le0]
  exact ⟨ν, rfl, r2⟩
theorem y_X.law12 (h : y_X sd μ0 k pl B μ) (hB : B < 129) (f : Nat) (x1 x2 x3 : Int32) : ∃ ν, F_X9_tellLaw_12 (f + 1) x1 x2 x3 μ = some ((), ν) ∧ y_X sd μ0 k pl (B + 1) ν := by
  rw [F_X9_tellLaw_12, if_neg h.n0]
  exact h.law129 hB x1 x2
theorem y_X.law110 (h : y_X sd μ0 k pl B μ) (hB : B < 128) (f : Nat) (x1 x2 x3 : Int32) : ∃ ν, F_X9_tellLaw_110 (F_X9_tellLaw_12 (f + 1)) x1 x2 x3 μ = some ((), ν) ∧ y_X sd μ0 k pl (B + 2) ν := by
  obtain ⟨ν, r1, r2⟩ := h.term (by omega)
  obtain ⟨ρ, s1, s2⟩ := r2.law12 (by omega) f x1 x2 x3
  refine ⟨ρ, ?_, s2⟩
  rw [F_X9_tellLaw_110, h.must, x_b_s, r1, x_b_s, r2.must, x_b_s, s1]
/-- an aunt, the four numbers and the end, behind a fault -/
theorem y_X.aunt77 (h : y_X sd μ0 k pl B μ) {a : Nat} (ha : 6 * sd ≤ a) (ha2 : a < 6 * sd + 6) (x2 : Int32) : ∃ ν, F_X9_tellAunt_77 (nI a) x2 μ = some ((), ν) ∧ y_X sd μ0 k pl B ν := by
  have hsd := h.sdl
  have hi : x_inb (nI a) 12 = true := x_inb_nI (by omega) (by decide)
  have h1 : y_X sd μ0 k pl B (x_pI μ 11 a 0) := h.pI (by unfold y_Fs; omega) (by omega) _
  have h2 : y_X sd μ0 k pl B (x_pI (x_pI μ 11 a 0) 12 a 0) := h1.pI (by unfold y_Fs; omega) (by omega) _
  have h3 : y_X sd μ0 k pl B (x_pI (x_pI (x_pI μ 11 a 0) 12 a 0) 13 a 0) := h2.pI (by unfold y_Fs; omega) (by omega) _
  have h4 : y_X sd μ0 k pl B (x_pI (x_pI (x_pI (x_pI μ 11 a 0) 12 a 0) 13 a 0) 14 a 0) := h3.pI (by unfold y_Fs; omega) (by omega) _
  have h5 : y_X sd μ0 k pl B (x_pI (x_pI (x_pI (x_pI (x_pI μ 11 a 0) 12 a 0) 13 a 0) 14 a 0) 15 a (vp_nar .boolean 0)) := h4.pI (by unfold y_Fs; omega) (by omega) _
  rw [F_X9_tellAunt_77, h.bounded, x_b_s, x_gd_t hi, x_pt_s, x_ix_nI (by omega), h1.bounded, x_b_s, x_gd_t hi, x_pt_s, h2.bounded, x_b_s, x_gd_t hi, x_pt_s, h3.bounded, x_b_s, x_gd_t hi, x_pt_s, if_neg h4.n0, F_X9_tellAunt_154, F_X9_tellAunt_155, x_gd_t hi, x_pt_s, x_ix_nI (by omega), x_gd_t hi, if_pos (show (x_pI (x_pI (x_pI (x_pI (x_pI μ 11 a 0) 12 a 0) 13 a 0) 14 a 0) 15 a (vp_nar .boolean 0)).1 15 a = 0 by rw [x_pI_1, if_pos ⟨rfl, rfl⟩]; rfl), F_X9_tellAunt_169, h5.must, x_b_s, if_neg h5.le0]
  exact ⟨_, rfl, h5⟩
theorem y_X.baby : ∀ (d i f : Nat) (μ : x_Hp), y_X sd μ0 k pl B μ → i + d = 4 → d < f → ∃ ν, F_X9_tellOne_82 f (nI i) μ = some ((), ν) ∧ y_X sd μ0 k pl B ν
  | 0, i, f, μ, h, q, hf => by
    obtain ⟨f, rfl⟩ := Nat.exists_eq_succ_of_ne_zero (show f ≠ 0 by omega)
    rw [F_X9_tellOne_82, if_pos (show (4 : Int32) ≤ nI i from nI_le (a := 4) (by omega) (by omega)), h.must, x_b_s]
    exact ⟨μ, rfl, h⟩
  | d + 1, i, f, μ, h, q, hf => by
    obtain ⟨f, rfl⟩ := Nat.exists_eq_succ_of_ne_zero (show f ≠ 0 by omega)
    have hsd := h.sdl
    have e : (4 : Int32) * nI sd + nI i = nI (4 * sd + i) := by rw [show (4 : Int32) = nI 4 from rfl, pk_mul, nI_add]
    have h2 : y_X sd μ0 k pl B (x_pI μ 9 (4 * sd + i) 0) := h.pI (by unfold y_Fs; omega) (by omega) _
    rw [F_X9_tellOne_82, if_neg (show ¬ (4 : Int32) ≤ nI i from nI_ge (b := 4) (by omega) (by decide)), h.bounded, x_b_s, h.e19, e, x_gd_t (x_inb_nI (by omega) (by decide)), x_pt_s, x_ix_nI (by omega), nI_1]
    exact y_X.baby d (i + 1) f _ h2 (by omega) (by omega)
end BAD
