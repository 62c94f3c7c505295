/-! READING: a law: its pieces and branches -/
theorem x_pI_comm (μ : x_Hp) {a b c d : Nat} (h : ¬ (a = c ∧ b = d)) (x y : Int32) : x_pI (x_pI μ a b x) c d y = x_pI (x_pI μ c d y) a b x := by
  refine x_ext (fun u v => ?_) rfl
  rw [x_pI_1, x_pI_1, x_pI_1, x_pI_1]
  by_cases z : u = c ∧ v = d
  · rw [if_pos z, if_neg (fun w : u = a ∧ v = b => h ⟨w.1.symm.trans z.1, w.2.symm.trans z.2⟩), if_pos z]
  · rw [if_neg z]
    by_cases z2 : u = a ∧ v = b
    · rw [if_pos z2, if_pos z2]
    · rw [if_neg z2, if_neg z2, if_neg z]
/-- what must be there doesn't mind what is written elsewhere -/
theorem y_must_pI {x : Int32} {μ ν : x_Hp} (h : F_X9_must x μ = some ((), ν)) {a b : Nat} (q : 21 ≤ a ∨ (a = 0 ∧ b = 34)) (v : Int32) : F_X9_must x (x_pI μ a b v) = some ((), x_pI ν a b v) ∧ y_hd μ ν := by
  have e : ∀ c d, (c < 21 ∧ (c ≠ 0 ∨ d ≠ 34)) → (x_pI μ a b v).1 c d = μ.1 c d := fun c d z => by rw [x_pI_1, if_neg (by omega)]
  have fl : ∀ {k : Int32} {ν : x_Hp}, F_X9_fail k μ = some ((), ν) → F_X9_fail k (x_pI μ a b v) = some ((), x_pI ν a b v) ∧ y_hd μ ν := by
    intro k ν h
    rw [F_X9_fail] at h ⊢
    rw [e 0 13 (by omega)]
    by_cases z : μ.1 0 13 ≤ 0
    · rw [if_pos z, x_pt_s, x_pI_1, if_neg (by omega)] at h
      rw [if_pos z, x_pt_s, x_pI_1, if_neg (by omega), e 0 11 (by omega)]
      by_cases z2 : x_inb (μ.1 0 11) 403 = true
      · rw [x_gd_t z2, x_pt_s, x_pI_1, if_neg (by omega)] at h
        rw [x_gd_t z2, x_pt_s, x_pI_1, if_neg (by omega), e 4 _ (by omega)]
        cases h
        refine ⟨?_, (y_hd.pI μ (a := 0) (b := 13) (by omega) k).tr (y_hd.pI _ (a := 0) (b := 14) (by omega) _)⟩
        rw [x_pI_comm μ (by omega), x_pI_comm _ (by omega)]
      · simp only [x_gd, z2] at h
        cases h
    · rw [if_neg z] at h ⊢
      cases h
      exact ⟨rfl, y_hd.same μ⟩
  have gs : ∀ {ν : x_Hp}, F_X9_goesOn μ = some ((), ν) → F_X9_goesOn (x_pI μ a b v) = some ((), x_pI ν a b v) ∧ y_hd μ ν := by
    intro ν h
    rw [F_X9_goesOn] at h ⊢
    rw [e 0 11 (by omega)]
    by_cases z : μ.1 0 11 = 400
    · rw [if_pos z] at h ⊢
      obtain ⟨⟨⟩, ρ, h1, h2⟩ := x_b_some h
      cases h2
      obtain ⟨f1, f2⟩ := fl h1
      rw [f1, x_b_s]; exact ⟨rfl, f2⟩
    · rw [if_neg z, x_pt_s] at h ⊢
      cases h
      exact ⟨by rw [x_pI_comm μ (by omega)], y_hd.pI μ (a := 0) (b := 11) (by omega) _⟩
  rw [F_X9_must] at h ⊢
  obtain ⟨r, ρ, h1, h2⟩ := x_b_some h
  have his : ρ = μ ∧ F_X9_is x (x_pI μ a b v) = some (r, x_pI μ a b v) := by
    rw [F_X9_is] at h1 ⊢
    rw [e 0 13 (by omega), e 0 11 (by omega)]
    by_cases z : μ.1 0 13 = 0
    · rw [if_pos z] at h1 ⊢
      by_cases z2 : x_inb (μ.1 0 11) 403 = true
      · rw [x_gd_t z2] at h1 ⊢
        rw [e 3 _ (by omega)]
        by_cases z3 : μ.1 3 (x_ix (μ.1 0 11)) = x
        · rw [if_pos z3] at h1 ⊢; cases h1; exact ⟨rfl, rfl⟩
        · rw [if_neg z3] at h1 ⊢; cases h1; exact ⟨rfl, rfl⟩
      · simp only [x_gd, z2] at h1
        cases h1
    · rw [if_neg z] at h1 ⊢; cases h1; exact ⟨rfl, rfl⟩
  obtain ⟨rfl, his⟩ := his
  rw [his, x_b_s]
  by_cases z : r = 0
  · rw [if_pos z] at h2 ⊢
    obtain ⟨⟨⟩, ρ', h3, h4⟩ := x_b_some h2
    cases h4
    obtain ⟨f1, f2⟩ := fl h3
    rw [f1, x_b_s]; exact ⟨rfl, f2⟩
  · rw [if_neg z] at h2 ⊢
    obtain ⟨⟨⟩, ρ', h3, h4⟩ := x_b_some h2
    cases h4
    obtain ⟨f1, f2⟩ := gs h3
    rw [f1, x_b_s]; exact ⟨rfl, f2⟩
theorem y_must_24 {x : Int32} {μ ν : x_Hp} (h : F_X9_must x μ = some ((), ν)) : x_b (F_X9_term_24 μ) (fun _ s => F_X9_must x s) = F_X9_term_24 ν := by
  have hd := (y_must_pI h (a := 0) (b := 34) (Or.inr ⟨rfl, rfl⟩) 0).2
  rw [F_X9_term_24, F_X9_term_24, hd.1 0 34 (by omega), hd.1 0 40 (by omega)]
  by_cases z : x_inb (μ.1 0 34) 260 = true
  · rw [x_gd_t z, x_gd_t z, x_pt_s, x_pt_s, x_pt_s, x_pt_s, x_b_s]
    have h1 := (y_must_pI h (a := 25) (b := x_ix (μ.1 0 34)) (Or.inl (by decide)) (μ.1 0 40)).1
    have e1 : (x_pI μ 25 (x_ix (μ.1 0 34)) (μ.1 0 40)).1 0 34 = μ.1 0 34 := by rw [x_pI_1, if_neg (by omega)]
    have e2 : (x_pI ν 25 (x_ix (μ.1 0 34)) (μ.1 0 40)).1 0 34 = μ.1 0 34 := by rw [x_pI_1, if_neg (by omega), hd.1 0 34 (by omega)]
    rw [e1, e2]
    exact (y_must_pI h1 (a := 0) (b := 34) (Or.inr ⟨rfl, rfl⟩) (μ.1 0 34 + 1)).1
  · simp only [x_gd, z]; rfl
theorem x_b_assoc {α β γ : Type} (x : Option (α × x_Hp)) (f : α → x_Hp → Option (β × x_Hp)) (g : β → x_Hp → Option (γ × x_Hp)) : x_b (x_b x f) g = x_b x (fun a s => x_b (f a s) g) := by
  cases x <;> rfl
theorem y_term_must {μ ν : x_Hp} {x : Int32} {b : Nat} (hb : μ.1 0 34 = nI b) (hb2 : b < 260) (h13 : μ.1 0 13 = 0) (h : x_b (F_X9_expression (x_pI μ 24 b (μ.1 0 40))) (fun _ s => F_X9_must x s) = some ((), ν)) : x_b (F_X9_term μ) (fun _ s => F_X9_must x s) = F_X9_term_24 ν := by
  have e13 : (x_pI μ 24 b (μ.1 0 40)).1 0 13 = 0 := by rw [x_pI_1, if_neg (by omega)]; exact h13
  rw [F_X9_term, hb, x_gd_t (x_inb_nI hb2 (by decide)), x_pt_s, x_ix_nI (by omega), if_pos e13, x_b_assoc]
  obtain ⟨⟨⟩, ρ, h1, h2⟩ := x_b_some h
  rw [h1, x_b_s, y_must_24 h2]
/-- behind a fault an expression is nothing -/
theorem y_X.xp {sd k pl B : Nat} {μ0 μ : x_Hp} (h : y_X sd μ0 k pl B μ) : ∃ ν, F_X9_expression μ = some ((), ν) ∧ y_X sd μ0 k pl B ν := by
  have e : ∀ d, d ≠ 44 → (x_pI μ 0 44 0).1 0 d = μ.1 0 d := fun d d1 => by rw [x_pI_1, if_neg (fun z => d1 z.2)]
  obtain ⟨w, c, w1, w2, w3, w4, w5⟩ := h.hw
  obtain ⟨t, t1, t2⟩ := h.ht
  obtain ⟨b', b1, b2, b3⟩ := h.hb
  have h2 : y_X sd μ0 k pl B (x_pI μ 0 44 0) := ⟨h.fr.pI (by unfold y_Fs; omega) _, h.sdl, h.hk, by rw [e 13 (by decide)]; exact h.e13, by rw [e 14 (by decide)]; exact h.e14, by rw [e 19 (by decide)]; exact h.e19, ⟨t, t1, by rw [e 11 (by decide)]; exact t2⟩, ⟨b', b1, b2, by rw [e 34 (by decide)]; exact b3⟩, 0, c, by omega, by rw [x_pI_1, if_pos ⟨rfl, rfl⟩]; rfl, w3, by omega, by rw [e 40 (by decide)]; exact w5⟩
  refine ⟨_, ?_, h2⟩
  have k := h2.x12 (x_fuel - 1) ((x_pI μ 0 44 0).1 0 12) 1
  rw [F_X9_expression, x_pt_s]
  exact k
/-! the class's pieces, the reference's branches -/
def c_pc (S N : Nat) (σ : x_Hp) (q : Nat) (cs : List Int32) : Prop := q + 1 ≤ N ∧ m_ok cs ∧ ∃ a : Nat, σ.1 30 q = nI a ∧ σ.1 30 (q + 1) = nI (a + cs.length) ∧ a + cs.length ≤ S ∧ ∀ i, i < cs.length → σ.1 29 (a + i) = cs.getD i 0
def c_pre (S N : Nat) (σ : x_Hp) : Nat → List (List Int32 × List Int32 × List Int32) → Prop
  | _, [] => True
  | p, t :: qs => c_pc S N σ p t.1 ∧ c_pc S N σ (p + 1) t.2.1 ∧ c_pc S N σ (p + 2) t.2.2 ∧ c_pre S N σ (p + 3) qs
def y_c (sd C : Nat) (μ : x_Hp) (a e : Int32) (cs : List Int32) : Prop := m_ok cs ∧ ∃ f : Nat, a = nI f ∧ e = nI (f + cs.length) ∧ 420 * sd ≤ f ∧ f + cs.length ≤ C ∧ ∀ i, i < cs.length → y_tok (μ.1 26 (f + i)) (μ.1 27 (f + i)) (cs.getD i 0)
def y_pre (sd C : Nat) (μ : x_Hp) : Nat → List (List Int32 × List Int32 × List Int32) → Prop
  | _, [] => True
  | b, t :: qs => (μ.1 21 b = 1 ∧ y_c sd C μ (μ.1 22 b) (μ.1 23 b) t.1 ∧ y_c sd C μ (μ.1 23 b) (μ.1 24 b) t.2.1 ∧ y_c sd C μ (μ.1 24 b) (μ.1 25 b) t.2.2) ∧ y_pre sd C μ (b + 1) qs
theorem c_pc.ag {S N S' N' : Nat} {σ τ : x_Hp} (hS : S ≤ S') (hN : N ≤ N') (h1 : ∀ b, b ≤ N → τ.1 30 b = σ.1 30 b) (h2 : ∀ b, b < S → τ.1 29 b = σ.1 29 b) {q : Nat} {cs : List Int32} (h : c_pc S N σ q cs) : c_pc S' N' τ q cs := by
  obtain ⟨a1, a2, a, a3, a4, a5, a6⟩ := h
  exact ⟨by omega, a2, a, by rw [h1 _ (by omega)]; exact a3, by rw [h1 _ (by omega)]; exact a4, by omega, fun i hi => by rw [h2 _ (by omega)]; exact a6 i hi⟩
theorem c_pre.ag {S N S' N' : Nat} {σ τ : x_Hp} (hS : S ≤ S') (hN : N ≤ N') (h1 : ∀ b, b ≤ N → τ.1 30 b = σ.1 30 b) (h2 : ∀ b, b < S → τ.1 29 b = σ.1 29 b) : ∀ (qs : List (List Int32 × List Int32 × List Int32)) (p : Nat), c_pre S N σ p qs → c_pre S' N' τ p qs
  | [], _, _ => trivial
  | _ :: qs, _, h => ⟨h.1.ag hS hN h1 h2, h.2.1.ag hS hN h1 h2, h.2.2.1.ag hS hN h1 h2, c_pre.ag hS hN h1 h2 qs _ h.2.2.2⟩
theorem c_pre.snoc {S N : Nat} {σ : x_Hp} {t : List Int32 × List Int32 × List Int32} : ∀ (qs : List (List Int32 × List Int32 × List Int32)) (p : Nat), c_pre S N σ p qs → c_pc S N σ (p + 3 * qs.length) t.1 → c_pc S N σ (p + 3 * qs.length + 1) t.2.1 → c_pc S N σ (p + 3 * qs.length + 2) t.2.2 → c_pre S N σ p (qs ++ [t])
  | [], _, _, h1, h2, h3 => ⟨h1, h2, h3, trivial⟩
  | _ :: qs, p, h, h1, h2, h3 => by
    have e : p + 3 * (qs.length + 1) = p + 3 + 3 * qs.length := by omega
    rw [List.length_cons, e] at h1 h2 h3
    exact ⟨h.1, h.2.1, h.2.2.1, c_pre.snoc qs _ h.2.2.2 h1 h2 h3⟩
theorem y_c.ag {sd C C' : Nat} {μ ν : x_Hp} (hC : C ≤ C') (h1 : ∀ a b, 26 ≤ a → a ≤ 27 → b < C → ν.1 a b = μ.1 a b) {a e : Int32} {cs : List Int32} (h : y_c sd C μ a e cs) : y_c sd C' ν a e cs := by
  obtain ⟨a1, f, a2, a3, a4, a5, a6⟩ := h
  exact ⟨a1, f, a2, a3, a4, by omega, fun i hi => by rw [h1 26 _ (by decide) (by decide) (by omega), h1 27 _ (by decide) (by decide) (by omega)]; exact a6 i hi⟩
theorem y_pre.ag {sd C C' : Nat} {μ ν : x_Hp} (hC : C ≤ C') (h1 : ∀ a b, 26 ≤ a → a ≤ 27 → b < C → ν.1 a b = μ.1 a b) : ∀ (qs : List (List Int32 × List Int32 × List Int32)) (b : Nat), (∀ a j, 21 ≤ a → a ≤ 25 → b ≤ j → j < b + qs.length → ν.1 a j = μ.1 a j) → y_pre sd C μ b qs → y_pre sd C' ν b qs
  | [], _, _, _ => trivial
  | t :: qs, b, h2, h => by
    have g : ∀ a, 21 ≤ a → a ≤ 25 → ν.1 a b = μ.1 a b := fun a q1 q2 => h2 a b q1 q2 (Nat.le_refl _) (by simp)
    refine ⟨?_, y_pre.ag hC h1 qs (b + 1) (fun a j q1 q2 q3 q4 => h2 a j q1 q2 (by omega) (by simp; omega)) h.2⟩
    rw [g 21 (by decide) (by decide), g 22 (by decide) (by decide), g 23 (by decide) (by decide), g 24 (by decide) (by decide), g 25 (by decide) (by decide)]
    exact ⟨h.1.1, h.1.2.1.ag hC h1, h.1.2.2.1.ag hC h1, h.1.2.2.2.ag hC h1⟩
theorem y_pre.snoc {sd C : Nat} {μ : x_Hp} {t : List Int32 × List Int32 × List Int32} : ∀ (qs : List (List Int32 × List Int32 × List Int32)) (b : Nat), y_pre sd C μ b qs → (μ.1 21 (b + qs.length) = 1 ∧ y_c sd C μ (μ.1 22 (b + qs.length)) (μ.1 23 (b + qs.length)) t.1 ∧ y_c sd C μ (μ.1 23 (b + qs.length)) (μ.1 24 (b + qs.length)) t.2.1 ∧ y_c sd C μ (μ.1 24 (b + qs.length)) (μ.1 25 (b + qs.length)) t.2.2) → y_pre sd C μ b (qs ++ [t])
  | [], _, _, h => ⟨h, trivial⟩
  | _ :: qs, b, h, h1 => by
    have e : b + (qs.length + 1) = b + 1 + qs.length := by omega
    rw [List.length_cons, e] at h1
    exact ⟨h.1, y_pre.snoc qs _ h.2 h1⟩
def c_L (S N : Nat) (σ : x_Hp) (L : x_LW) (ex : Nat) : Prop := ∀ k, k < 7 → k ≠ ex → ∃ p : Nat, σ.1 31 k = nI p ∧ σ.1 32 k = nI (L k).1.length ∧ c_pre S N σ p (L k).1 ∧ c_pc S N σ (p + 3 * (L k).1.length) (L k).2
def y_L (sd C bn : Nat) (μ : x_Hp) (L : x_LW) (ex : Nat) : Prop := ∀ k, k < 7 → k ≠ ex → (μ.1 19 (7 * sd + k) = μ.1 20 (7 * sd + k) ∧ L k = ([], [if k < 2 then 1 else 0])) ∨ (∃ f : Nat, μ.1 19 (7 * sd + k) = nI f ∧ μ.1 20 (7 * sd + k) = nI (f + (L k).1.length + 1) ∧ 130 * sd ≤ f ∧ f + (L k).1.length + 1 ≤ 130 * sd + bn ∧ y_pre sd C μ f (L k).1 ∧ μ.1 21 (f + (L k).1.length) = 0 ∧ y_c sd C μ (μ.1 24 (f + (L k).1.length)) (μ.1 25 (f + (L k).1.length)) (L k).2)
theorem c_L.ag {S N S' N' : Nat} {σ τ : x_Hp} {L : x_LW} {ex ex' : Nat} (hS : S ≤ S') (hN : N ≤ N') (h1 : ∀ b, b ≤ N → τ.1 30 b = σ.1 30 b) (h2 : ∀ b, b < S → τ.1 29 b = σ.1 29 b) (h3 : ∀ k, k < 7 → k ≠ ex' → k ≠ ex ∧ τ.1 31 k = σ.1 31 k ∧ τ.1 32 k = σ.1 32 k) (h : c_L S N σ L ex) : c_L S' N' τ L ex' := by
  intro k hk he
  obtain ⟨a1, a2, a3⟩ := h3 k hk he
  obtain ⟨p, b1, b2, b3, b4⟩ := h k hk a1
  exact ⟨p, by rw [a2]; exact b1, by rw [a3]; exact b2, b3.ag hS hN h1 h2, b4.ag hS hN h1 h2⟩
theorem y_L.ag {sd C C' bn bn' : Nat} {μ ν : x_Hp} {L : x_LW} {ex ex' : Nat} (hC : C ≤ C') (hb : bn ≤ bn') (h1 : ∀ a b, 26 ≤ a → a ≤ 27 → b < C → ν.1 a b = μ.1 a b) (h2 : ∀ a j, 21 ≤ a → a ≤ 25 → 130 * sd ≤ j → j < 130 * sd + bn → ν.1 a j = μ.1 a j) (h3 : ∀ k, k < 7 → k ≠ ex' → k ≠ ex ∧ ν.1 19 (7 * sd + k) = μ.1 19 (7 * sd + k) ∧ ν.1 20 (7 * sd + k) = μ.1 20 (7 * sd + k)) (h : y_L sd C bn μ L ex) : y_L sd C' bn' ν L ex' := by
  intro k hk he
  obtain ⟨a1, a2, a3⟩ := h3 k hk he
  rcases h k hk a1 with ⟨b1, b2⟩ | ⟨f, b1, b2, b3, b4, b5, b6, b7⟩
  · exact Or.inl ⟨by rw [a2, a3]; exact b1, b2⟩
  · refine Or.inr ⟨f, by rw [a2]; exact b1, by rw [a3]; exact b2, b3, by omega, b5.ag hC h1 _ _ (fun a j q1 q2 q3 q4 => h2 a j q1 q2 (by omega) (by omega)), ?_, ?_⟩
    · rw [h2 21 _ (by decide) (by decide) (by omega) (by omega)]; exact b6
    · rw [h2 24 _ (by decide) (by decide) (by omega) (by omega), h2 25 _ (by decide) (by decide) (by omega) (by omega)]; exact b7.ag hC h1
