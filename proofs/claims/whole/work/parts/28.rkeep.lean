/-! SHE KEEPS IT, the reference's -/
def y_agr (μ τ : x_Hp) : Prop := ∀ a b, a < 29 → ¬ (a = 0 ∧ 53 ≤ b) → τ.1 a b = μ.1 a b
theorem y_cd.agr {μ τ : x_Hp} (h : y_agr μ τ) {a e : Int32} {cs : List Int32} (hc : y_cd μ a e cs) : y_cd τ a e cs := by
  obtain ⟨h1, f, h2, h3, h4, h5⟩ := hc
  refine ⟨h1, f, h2, h3, h4, fun i hi => ?_⟩
  rw [h 26 _ (by decide) (by omega), h 27 _ (by decide) (by omega)]
  exact h5 i hi
theorem y_brs.agr {μ τ : x_Hp} (h : y_agr μ τ) : ∀ (qs : List (List Int32 × List Int32 × List Int32)) (z : List Int32) (b : Nat), y_brs μ b qs z → y_brs τ b qs z := by
  intro qs
  induction qs with
  | nil =>
    intro z b ⟨h1, h2, h3⟩
    refine ⟨h1, ?_, ?_⟩
    · rw [h 21 _ (by decide) (by omega)]; exact h2
    · rw [h 24 _ (by decide) (by omega), h 25 _ (by decide) (by omega)]; exact h3.agr h
  | cons q qs ih =>
    intro z b ⟨h1, h2, h3, h4, h5, h6⟩
    refine ⟨h1, ?_, ?_, ?_, ?_, ih z (b + 1) h6⟩
    · rw [h 21 _ (by decide) (by omega)]; exact h2
    · rw [h 22 _ (by decide) (by omega), h 23 _ (by decide) (by omega)]; exact h3.agr h
    · rw [h 23 _ (by decide) (by omega), h 24 _ (by decide) (by omega)]; exact h4.agr h
    · rw [h 24 _ (by decide) (by omega), h 25 _ (by decide) (by omega)]; exact h5.agr h
theorem y_Tx.agr {μ τ : x_Hp} (h : y_agr μ τ) {T : x_TT} {lv N : Nat} (hT : y_Tx μ T lv N) : y_Tx τ T lv N := by
  obtain ⟨h1, h2, h3, h4, h5, h6, h7, h8, h9, h10, h11⟩ := hT
  refine ⟨h1, h2, ?_, h4, ?_, fun a ha => ?_, ?_, ?_, ?_, fun k hk => ?_, fun k hk => ?_⟩
  · rw [h 0 _ (by decide) (by omega)]; exact h3
  · rw [h 10 _ (by decide) (by omega)]; exact h5
  · rw [h 11 _ (by decide) (by omega), h 12 _ (by decide) (by omega), h 13 _ (by decide) (by omega), h 14 _ (by decide) (by omega), h 15 _ (by decide) (by omega)]; exact h6 a ha
  · rw [h 16 _ (by decide) (by omega)]; exact h7
  · rw [h 17 _ (by decide) (by omega)]; exact h8
  · rw [h 18 _ (by decide) (by omega)]; exact h9
  · rw [h 9 _ (by decide) (by omega)]; exact h10 k hk
  · rw [h 19 _ (by decide) (by omega), h 20 _ (by decide) (by omega)]
    rcases h11 k hk with q | ⟨f, q1, q2, q3, q4⟩
    · exact Or.inl q
    · exact Or.inr ⟨f, q1, q2, y_brs.agr h _ _ _ q3, q4.1, q4.2.1, fun b r g1 g2 g3 g4 g5 => by rw [h r b (by omega) (by omega)]; exact q4.2.2 b r g1 g2 g3 g4 g5⟩
theorem y_G.agr {μ τ : x_Hp} (h : y_agr μ τ) {T : x_TT} {N : Nat} {v : x_V} (hG : y_G μ T N v) : y_G τ T N v := by
  obtain ⟨h1, w, h2, a, b, c, d, e⟩ := hG
  refine ⟨h1, w, h2, a, ?_, c, d, ?_⟩
  · rw [h 0 51 (by decide) (by omega), h 0 52 (by decide) (by omega)]; exact b
  · rw [h 0 50 (by decide) (by omega)]; exact e
theorem z_putO (μ : x_Hp) (v : x_V) (c : y_Sc) {a b : Nat} (h1 : a ≠ 32) (h2 : a ≠ 29) (h3 : a ≠ 30) (h4 : a ≠ 33) (h5 : a ≠ 0 ∨ b ≠ 47) (x : Int32) : x_pI (z_hp μ v c) a b x = z_hp (x_pI μ a b x) v c := by
  refine x_ext (fun i j => ?_) rfl
  rw [x_pI_1]
  by_cases e : i = a ∧ j = b
  · obtain ⟨rfl, rfl⟩ := e
    rw [if_pos ⟨rfl, rfl⟩, z_oth _ _ _ _ h1 h2 h3 h4 h5, x_pI_1, if_pos ⟨rfl, rfl⟩]
  · rw [if_neg e]
    simp only [z_hp, y_hp]
    by_cases hi : i = 32
    · subst hi; simp [x_pI_1, Ne.symm h1]
    · simp [hi, x_pI_1, e]
theorem y_agr57 (μ : x_Hp) (x : Int32) : y_agr μ (x_pI μ 0 57 x) := fun a b _ h2 => by rw [x_pI_1, if_neg (by omega)]
section RK
variable {T : x_TT} {lv N : Nat}
/-- what the sleeper is, once she has kept it -/
def y_sl (μ : x_Hp) (a : Int32) (q : Bool) : Int32 := if q = true then (if 0 ≤ μ.1 0 57 then μ.1 0 57 else a) else μ.1 0 57
theorem y_keep_loop {a : Nat} (ha : a < 6) (x3 x4 : Int32) : ∀ (K n l s : Nat) (μ : x_Hp) (v : x_V) (c : y_Sc), y_Tx μ T lv N → y_G μ T N v → v 13 = nI s → s ≤ 60 → l ≤ 20 → 61 * l + s ≤ K → K < n →
    ∃ c2 : y_Sc, F_X9_gives_39 n (nI a) x3 x4 (nI l) (z_hp μ v c) = F_X9_gives_39 1 (nI a) x3 x4 (nI 0) (z_hp (x_pI μ 0 57 (y_sl μ (nI a) (m_kq T K v (nI l)))) (m_kp T K v (nI l)) c2) ∧ m_kp T K v (nI l) 13 = nI 0 := by
  have ext : ∀ (n : Nat) (μ : x_Hp) (v : x_V) (c : y_Sc), v 13 = nI 0 → F_X9_gives_39 (n + 1) (nI a) x3 x4 (nI 0) (z_hp μ v c) = F_X9_gives_39 1 (nI a) x3 x4 (nI 0) (z_hp μ v c) := by
    intro n μ v c h13
    rw [F_X9_gives_39, F_X9_gives_39, if_neg (show ¬ (0 : Int32) < nI 0 by decide), if_neg (show ¬ (0 : Int32) < nI 0 by decide), z_get μ v c 13 (k := 7) rfl (by decide) (by decide), h13, if_pos (show nI 0 ≤ 0 by decide), if_pos (show nI 0 ≤ 0 by decide)]
  intro K
  induction K with
  | zero =>
    intro n l s μ v c hT hG h13 hs hl hM hn
    obtain ⟨n, rfl⟩ : ∃ m, n = m + 1 := ⟨n - 1, by omega⟩
    have hl0 : l = 0 := by omega
    have hs0 : s = 0 := by omega
    subst hl0; subst hs0
    have e : x_pI μ 0 57 (y_sl μ (nI a) (m_kq T 0 v (nI 0))) = μ := by
      refine x_ext (fun i j => ?_) rfl
      rw [x_pI_1]
      by_cases q : i = 0 ∧ j = 57
      · obtain ⟨rfl, rfl⟩ := q; rw [if_pos ⟨rfl, rfl⟩]; rfl
      · rw [if_neg q]
    refine ⟨c, ?_, h13⟩
    rw [e, m_kp]
    exact ext n μ v c h13
  | succ K ih =>
    intro n l s μ v c hT hG h13 hs hl hM hn
    obtain ⟨n, rfl⟩ : ∃ m, n = m + 1 := ⟨n - 1, by omega⟩
    by_cases hc : 0 < l ∨ 0 < s
    · have hc2 : (0 : Int32) < nI l ∨ ¬ v 13 ≤ 0 := by
        rcases hc with q | q
        · exact Or.inl (nI_lt (a := 0) q (by omega))
        · right; rw [h13]; exact nI_nle q (by omega)
      -- one minute
      have hGs := hG.step hT
      obtain ⟨⟨-, ⟨s2, hs2, e2⟩, -⟩, -⟩ := id hGs
      have go67 : ∀ (l2 : Nat), l2 ≤ 20 → 61 * l2 + s2 ≤ K → (nI l2 = if v 13 = 0 then nI l - 1 else nI l) → ∃ c2 : y_Sc, F_X9_gives_67 (F_X9_gives_39 n) (nI a) x3 x4 (nI l2) (z_hp μ v c) = F_X9_gives_39 1 (nI a) x3 x4 (nI 0) (z_hp (x_pI μ 0 57 (y_sl μ (nI a) (m_kq T (K + 1) v (nI l)))) (m_kp T (K + 1) v (nI l)) c2) ∧ m_kp T (K + 1) v (nI l) 13 = nI 0 := by
        intro l2 hl2 hM2 el
        obtain ⟨c3, g3⟩ := y_stepG hT hG c
        rw [F_X9_gives_67, g3, x_b_s, z_get μ _ c3 13 (k := 7) rfl (by decide) (by decide), z_0 μ _ c3 (by decide), m_kp, if_pos hc2, m_kq, if_pos hc2, ← el]
        by_cases h0 : m_step T v 13 ≤ 0
        · rw [if_pos h0]
          obtain ⟨c4, g4, k4⟩ := ih n l2 s2 μ (m_step T v) c3 hT hGs e2 hs2 hl2 hM2 (by omega)
          refine ⟨c4, ?_, k4⟩
          rw [g4]
          simp [h0]
        · rw [if_neg h0]
          by_cases h57 : 0 ≤ μ.1 0 57
          · rw [if_pos h57]
            obtain ⟨c4, g4, k4⟩ := ih n l2 s2 μ (m_step T v) c3 hT hGs e2 hs2 hl2 hM2 (by omega)
            refine ⟨c4, ?_, k4⟩
            rw [g4]
            have : ∀ q, y_sl μ (nI a) q = μ.1 0 57 := by
              intro q; rw [y_sl, if_pos h57]; split <;> rfl
            rw [this, this]
          · rw [if_neg h57, x_pt_s, z_putO μ _ c3 (by decide) (by decide) (by decide) (by decide) (Or.inr (by decide))]
            obtain ⟨c4, g4, k4⟩ := ih n l2 s2 (x_pI μ 0 57 (nI a)) (m_step T v) c3 (hT.agr (y_agr57 μ _)) (hGs.agr (y_agr57 μ _)) e2 hs2 hl2 hM2 (by omega)
            refine ⟨c4, ?_, k4⟩
            rw [g4]
            have e1 : ∀ q, y_sl (x_pI μ 0 57 (nI a)) (nI a) q = nI a := by
              intro q
              have : (x_pI μ 0 57 (nI a)).1 0 57 = nI a := by rw [x_pI_1, if_pos ⟨rfl, rfl⟩]
              rw [y_sl, this, if_pos (nI_pos' (by omega))]; split <;> rfl
            have e3 : y_sl μ (nI a) (!decide (m_step T v 13 ≤ 0) || m_kq T K (m_step T v) (nI l2)) = nI a := by
              have : (!decide (m_step T v 13 ≤ 0) || m_kq T K (m_step T v) (nI l2)) = true := by simp [h0]
              rw [this, y_sl, if_pos rfl, if_neg h57]
            rw [e1, e3]
            congr 2
            refine x_ext (fun i j => ?_) rfl
            rw [x_pI_1, x_pI_1]
            split <;> rfl
      have go54 : ∃ c2 : y_Sc, F_X9_gives_54 (F_X9_gives_39 n) (nI a) x3 x4 (nI l) (z_hp μ v c) = F_X9_gives_39 1 (nI a) x3 x4 (nI 0) (z_hp (x_pI μ 0 57 (y_sl μ (nI a) (m_kq T (K + 1) v (nI l)))) (m_kp T (K + 1) v (nI l)) c2) ∧ m_kp T (K + 1) v (nI l) 13 = nI 0 := by
        rw [F_X9_gives_54, z_get μ v c 13 (k := 7) rfl (by decide) (by decide)]
        by_cases h0 : v 13 = 0
        · have s0 : s = 0 := by
            have := h13.symm.trans h0
            exact (nI_eq (b := 0) (by omega) (by decide)).mp this
          rw [if_pos h0, show nI l + (-1 : Int32) = nI (l - 1) from sb_m1 (by omega)]
          refine go67 (l - 1) (by omega) (by omega) ?_
          rw [if_pos h0, show (1 : Int32) = nI 1 from rfl, pk_sub (by omega)]
        · have s0 : s ≠ 0 := by
            intro q; rw [q] at h13; exact h0 h13
          rw [if_neg h0]
          obtain ⟨⟨⟨w, hw, -⟩, -⟩, -⟩ := id hG
          have e13 : m_step T v 13 = nI (s - 1) := m_step_13 hT.2.2.2.1 (by omega) hT.2.1 (by omega) hs h13
          have : s2 = s - 1 := (nI_eq (by omega) (by omega)).mp (e2.symm.trans e13)
          exact go67 l hl (by omega) (by rw [if_neg h0])
      rw [F_X9_gives_39, z_get μ v c 13 (k := 7) rfl (by decide) (by decide)]
      by_cases hl0 : 0 < nI l
      · rw [if_pos hl0]; exact go54
      · have : ¬ v 13 ≤ 0 := by
          rcases hc2 with q | q
          · exact absurd q hl0
          · exact q
        rw [if_neg hl0, if_neg this]; exact go54
    · have hl0 : l = 0 := by omega
      have hs0 : s = 0 := by omega
      subst hl0; subst hs0
      have nc : ¬ ((0 : Int32) < nI 0 ∨ ¬ v 13 ≤ 0) := by
        rw [h13]; decide
      have e : x_pI μ 0 57 (y_sl μ (nI a) (m_kq T (K + 1) v (nI 0))) = μ := by
        refine x_ext (fun i j => ?_) rfl
        rw [x_pI_1]
        by_cases q : i = 0 ∧ j = 57
        · obtain ⟨rfl, rfl⟩ := q; rw [if_pos ⟨rfl, rfl⟩, m_kq, if_neg nc]; rfl
        · rw [if_neg q]
      have ek : m_kp T (K + 1) v (nI 0) = v := by rw [m_kp, if_neg nc]
      rw [e, ek]
      exact ⟨c, ext n μ v c h13, h13⟩
end RK
