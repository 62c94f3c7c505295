/-! A ROW FILLED PLACE BY PLACE -/
def y_fl (σ : x_Hp) (r b L : Nat) (f : Nat → Int32) (i : Nat) : x_Hp := (x_u σ.1 r (fun j => if b + i ≤ j ∧ j < b + L then f (j - b) else σ.1 r j), σ.2)
theorem y_fl_done (σ : x_Hp) (r b L : Nat) (f : Nat → Int32) : y_fl σ r b L f L = σ := by
  refine x_ext (fun a j => ?_) rfl
  simp only [y_fl, x_u]
  by_cases ha : a = r
  · subst ha; rw [if_pos rfl, if_neg (by omega)]
  · rw [if_neg ha]
theorem y_fl_step (σ : x_Hp) (r b L : Nat) (f : Nat → Int32) {i : Nat} (hi : i < L) : y_fl (x_pI σ r (b + i) (f i)) r b L f (i + 1) = y_fl σ r b L f i := by
  refine x_ext (fun a j => ?_) rfl
  simp only [y_fl, x_u]
  by_cases ha : a = r
  · subst ha
    rw [if_pos rfl, if_pos rfl]
    by_cases h1 : b + (i + 1) ≤ j ∧ j < b + L
    · rw [if_pos h1, if_pos (by omega)]
    · rw [if_neg h1, x_pI_1]
      by_cases h2 : j = b + i
      · subst h2
        rw [if_pos ⟨rfl, rfl⟩, if_pos (by omega)]; congr 1; omega
      · rw [if_neg (by omega), if_neg (by omega)]
  · rw [if_neg ha, if_neg ha, x_pI_1, if_neg (by omega)]
theorem y_fl_in (σ : x_Hp) (r b L : Nat) (f : Nat → Int32) {k : Nat} (h : k < L) : (y_fl σ r b L f 0).1 r (b + k) = f k := by
  simp only [y_fl, x_u, if_true]
  rw [if_pos (by omega)]; congr 1; omega
theorem y_fl_o (σ : x_Hp) (r b L : Nat) (f : Nat → Int32) {a j : Nat} (h : a ≠ r ∨ j < b ∨ b + L ≤ j) : (y_fl σ r b L f 0).1 a j = σ.1 a j := by
  simp only [y_fl, x_u]
  by_cases ha : a = r
  · subst ha; rw [if_pos rfl, if_neg (by omega)]
  · rw [if_neg ha]
theorem y_fill {α : Type} (F : Nat → Int32 → x_Hp → Option α) (r b L : Nat) (f : Nat → Int32) (P : Nat → x_Hp → Prop) (hP : ∀ i σ, i < L → P i σ → P (i + 1) (x_pI σ r (b + i) (f i))) (hs : ∀ n i σ, i < L → P i σ → F (n + 1) (nI i) σ = F n (nI (i + 1)) (x_pI σ r (b + i) (f i))) : ∀ (d n i : Nat) (σ : x_Hp), i + d = L → P i σ → F (n + d) (nI i) σ = F n (nI L) (y_fl σ r b L f i) := by
  intro d
  induction d with
  | zero =>
    intro n i σ h1 h2
    have : i = L := by omega
    subst this
    rw [y_fl_done]; rfl
  | succ d ih =>
    intro n i σ h1 h2
    rw [show n + (d + 1) = (n + d) + 1 by omega, hs _ i σ (by omega) h2, ih n (i + 1) _ (by omega) (hP i σ (by omega) h2), y_fl_step _ _ _ _ _ (by omega)]
theorem y_fill0 {α : Type} (F : Nat → Int32 → x_Hp → Option α) (r b L : Nat) (hL : L < 60000) (f : Nat → Int32) (P : Nat → x_Hp → Prop) (hP : ∀ i σ, i < L → P i σ → P (i + 1) (x_pI σ r (b + i) (f i))) (hs : ∀ n i σ, i < L → P i σ → F (n + 1) (nI i) σ = F n (nI (i + 1)) (x_pI σ r (b + i) (f i))) {σ : x_Hp} (h0 : P 0 σ) : ∃ n, F x_fuel 0 σ = F (n + 1) (nI L) (y_fl σ r b L f 0) := by
  have := y_fill F r b L f P hP hs L (65536 - L) 0 σ (by omega) h0
  rw [show 65536 - L + L = x_fuel by rw [x_fuel]; omega] at this
  exact ⟨65536 - L - 1, by rw [show 65536 - L - 1 + 1 = 65536 - L by omega]; exact this⟩
/-! WITH NO AUNTS TOO -/
def m_Z (N : Nat) (v : x_V) : Prop := N = 0 ∧ v 9 = -2 ∧ v 13 = 0 ∧ v 12 = 0
def y_H (μ : x_Hp) (T : x_TT) (N : Nat) (v : x_V) : Prop := y_G μ T N v ∨ m_Z N v
theorem m_Z.stepEq {T : x_TT} {v : x_V} {N : Nat} (h : m_Z N v) (hN : T.1 1 7 = nI N) : m_step T v = x_u v 15 (v 15 + 1) := by
  have : T.1 1 7 ≤ 0 := by rw [hN, h.1]; decide
  rw [m_step, m_mn, if_pos this]
theorem m_Z.step {T : x_TT} {v : x_V} {N : Nat} (h : m_Z N v) (hN : T.1 1 7 = nI N) : m_Z N (m_step T v) := by
  rw [h.stepEq hN]
  exact ⟨h.1, by rw [x_un _ _ (by decide)]; exact h.2.1, by rw [x_un _ _ (by decide)]; exact h.2.2.1, by rw [x_un _ _ (by decide)]; exact h.2.2.2⟩
section RH
variable {μ : x_Hp} {T : x_TT} {lv N : Nat}
theorem y_H.step (hT : y_Tx μ T lv N) {v : x_V} (h : y_H μ T N v) : y_H μ T N (m_step T v) := by
  rcases h with h | h
  · exact Or.inl (h.step hT)
  · exact Or.inr (h.step hT.2.2.2.1)
theorem y_H.goes (hT : y_Tx μ T lv N) : ∀ (d : Nat) {v : x_V}, y_H μ T N v → y_H μ T N (m_goes T d v) := by
  intro d
  induction d with
  | zero => intro v h; exact h
  | succ d ih => intro v h; exact ih (h.step hT)
theorem y_stepH (hT : y_Tx μ T lv N) {v : x_V} (h : y_H μ T N v) (c : y_Sc) : ∃ c2, F_X9_minuteGoes (z_hp μ v c) = some ((), z_hp μ (m_step T v) c2) := by
  rcases h with h | h
  · exact y_stepG hT h c
  · refine ⟨c, ?_⟩
    rw [F_X9_minuteGoes, z_get μ v c 9 (k := 4) rfl (by decide) (by decide), h.2.1, if_pos (by decide), F_X9_minuteGoes_30, x_pt_s, z_get μ _ c 15 (k := 12) rfl (by decide) (by decide), z_put μ _ c 15 (k := 12) rfl (by decide) (by decide), h.stepEq hT.2.2.2.1]
theorem y_goesH (hT : y_Tx μ T lv N) : ∀ (d n i : Nat) (v : x_V) (c : y_Sc), y_H μ T N v → i + d < 2 ^ 31 → d < n → ∃ c2, F_X9_goes_2 n (nI (i + d)) (nI i) (z_hp μ v c) = some ((), z_hp μ (m_goes T d v) c2) := by
  intro d
  induction d with
  | zero =>
    intro n i v c hG h1 h2
    obtain ⟨n, rfl⟩ : ∃ m, n = m + 1 := ⟨n - 1, by omega⟩
    rw [F_X9_goes_2, if_pos (by simp)]
    exact ⟨c, rfl⟩
  | succ d ih =>
    intro n i v c hG h1 h2
    obtain ⟨n, rfl⟩ : ∃ m, n = m + 1 := ⟨n - 1, by omega⟩
    rw [F_X9_goes_2, if_neg (nI_ge (by omega) (by omega))]
    refine y_be (h := fun c => z_hp μ _ c) (g := fun c => z_hp μ _ c) (y_stepH hT hG c) (fun c => ?_)
    have := ih n (i + 1) (m_step T v) c (hG.step hT) (by omega) (by omega)
    rw [show i + 1 + d = i + (d + 1) by omega, ← nI_1] at this
    exact this
theorem z_goes (hT : y_Tx μ T lv N) {v : x_V} (hG : y_H μ T N v) (c : y_Sc) {k : Nat} (hk : k < 60000) : ∃ c2, F_X9_goes (nI k) (z_hp μ v c) = some ((), z_hp μ (m_goes T k v) c2) := by
  have := y_goesH hT k x_fuel 0 v c hG (by omega) (by rw [x_fuel]; omega)
  rw [Nat.zero_add] at this
  exact this
theorem z_cries (hT : y_Tx μ T lv N) {v : x_V} (hG : y_H μ T N v) (c : y_Sc) {k : Nat} (hk : k < 60000) : ∃ c2, F_X9_cries (nI k) (z_hp μ v c) = some (m_all (m_goes T k v) 1 - m_all v 1, z_hp μ (m_goes T k v) c2) := by
  rw [F_X9_cries, z_13]
  refine y_be (h := fun c => z_hp μ _ c) (g := fun c => z_hp μ _ c) (z_goes hT hG c hk) (fun c => ⟨c, ?_⟩)
  rw [z_13]
end RH
/-! WHAT STANDS: its bounds, kept by all that is done -/
def m_Bd (t : Nat) (v : x_V) : Prop := ∀ a, a < 6 → (∃ h, h ≤ t ∧ v (20 + 7 * a) = nI h) ∧ ∃ q, q ≤ 99 * t ∧ v (21 + 7 * a) = nI q
def m_Wy (T : x_TT) (N : Nat) (v : x_V) : Prop := m_I N v ∧ ∃ w, w < N ∧ v 9 = nI w ∧ T.1 3 w = v 5 ∧ T.1 4 w = v 6 ∧ T.1 5 w = v 7
def m_Fa (t : Nat) (v : x_V) : Prop := ∃ x, x ≤ t ∧ v 17 = nI x
def m_J (T : x_TT) (N t : Nat) (v : x_V) : Prop := (m_Wy T N v ∨ m_Z N v) ∧ v 16 = T.1 1 6 ∧ m_Bd t v ∧ m_Fa t v
theorem m_Fa.mono {t u : Nat} {v : x_V} (h : m_Fa t v) (htu : t ≤ u) : m_Fa u v := by
  obtain ⟨x, h1, h2⟩ := h
  exact ⟨x, by omega, h2⟩
theorem m_Fa.e {t : Nat} {v u : x_V} (h : m_Fa t v) (e : u 17 = v 17) : m_Fa t u := by
  obtain ⟨x, h1, h2⟩ := h
  exact ⟨x, h1, by rw [e, h2]⟩
/-- how often it has fallen asleep -/
theorem m_step_f (T : x_TT) (v : x_V) : (v 13 ≤ 0 → (m_step T v 13 = 60 ∧ m_step T v 17 = v 17 + 1) ∨ (m_step T v 13 = v 13 ∧ m_step T v 17 = v 17)) ∧ (¬ v 13 ≤ 0 → m_step T v 17 = v 17) := by
  have e13 : m_step T v 13 = m_mn T v 13 := by rw [m_step, x_un _ _ (by decide)]
  have e17 : m_step T v 17 = m_mn T v 17 := by rw [m_step, x_un _ _ (by decide)]
  rw [e13, e17, m_mn]
  by_cases h0 : T.1 1 7 ≤ 0
  · rw [if_pos h0]; exact ⟨fun _ => Or.inr ⟨rfl, rfl⟩, fun _ => rfl⟩
  · rw [if_neg h0]
    by_cases h : v 13 ≤ 0
    · rw [if_pos h]
      refine ⟨fun _ => ?_, fun q => absurd h q⟩
      have a : ∀ k, k = 13 ∨ k = 17 → m_w5 T (m_w4 (m_w3 (m_w2 T (m_w1 T v)))) k = v k := by
        intro k hk
        rw [m_w5_k T _ (by omega) (by omega), m_w4_k _ (by omega), m_w3_k _ (by omega), m_w2_k T _ (by omega), m_w1_k T _ (by omega)]
      rw [m_awake]
      generalize m_w5 T (m_w4 (m_w3 (m_w2 T (m_w1 T v)))) = u at a ⊢
      rw [m_w6]
      split
      · right; exact ⟨a 13 (by omega), a 17 (by omega)⟩
      · left
        exact ⟨by rw [m_fall, x_un _ _ (by decide), x_ub], by rw [m_fall, x_ub, a 17 (by omega)]⟩
    · rw [if_neg h]
      refine ⟨fun q => absurd q h, fun _ => ?_⟩
      exact m_asleep_k T v (by decide) (by decide)
theorem m_Fa.step {T : x_TT} {t : Nat} {v : x_V} (h : m_Fa t v) : m_Fa (t + 1) (m_step T v) := by
  obtain ⟨x, h1, h2⟩ := h
  by_cases h0 : v 13 ≤ 0
  · rcases (m_step_f T v).1 h0 with ⟨-, q⟩ | ⟨-, q⟩
    · exact ⟨x + 1, by omega, by rw [q, h2, nI_1]⟩
    · exact ⟨x, by omega, by rw [q, h2]⟩
  · exact ⟨x, by omega, by rw [(m_step_f T v).2 h0, h2]⟩
theorem m_Bd.mono {t u : Nat} {v : x_V} (h : m_Bd t v) (htu : t ≤ u) : m_Bd u v := by
  intro a ha
  obtain ⟨⟨x, h1, h2⟩, q, h3, h4⟩ := h a ha
  exact ⟨⟨x, by omega, h2⟩, q, by omega, h4⟩
theorem m_J.mono {T : x_TT} {N t u : Nat} {v : x_V} (h : m_J T N t v) (htu : t ≤ u) : m_J T N u v := ⟨h.1, h.2.1, h.2.2.1.mono htu, h.2.2.2.mono htu⟩
theorem m_Bd.lo {t : Nat} {v u : x_V} (h : m_Bd t v) (e : ∀ k, 20 ≤ k → u k = v k) : m_Bd t u := by
  intro a ha
  rw [e _ (by omega), e _ (by omega)]
  exact h a ha
/-- a tally that isn't MINUTES or CRY -/
theorem m_Bd.tm {t : Nat} {v : x_V} (h : m_Bd t v) {w q : Nat} (h9 : v 9 = nI w) (h6 : w < 6) (hq : 2 ≤ q) (hq7 : q < 7) (x : Int32) : m_Bd t (m_tm v (nI q) x) := by
  rw [m_tm_nI v h9 h6 hq7]
  intro a ha
  rw [x_un _ _ (by omega), x_un _ _ (by omega)]
  exact h a ha
theorem m_Bd.w3 {t : Nat} {v : x_V} (h : m_Bd t v) {w : Nat} (h9 : v 9 = nI w) (h6 : w < 6) {c : Nat} (hc : c ≤ 99) (h12 : v 12 = nI c) : m_Bd (t + 1) (m_w3 v) := by
  have e0 := m_tm_nI v h9 h6 (q := 0) (by decide) 1
  have h9' : (m_tm v 0 1) 9 = nI w := by rw [m_tm_lt _ _ _ (by decide)]; exact h9
  have e1 := m_tm_nI (m_tm v 0 1) h9' h6 (q := 1) (by decide) ((m_tm v 0 1) 12)
  rw [m_w3]
  rw [show (1 : Int32) = nI 1 from rfl, show (0 : Int32) = nI 0 from rfl] at *
  rw [e1, m_tm_lt _ _ _ (show 12 < 20 by decide), h12, e0]
  intro a ha
  obtain ⟨⟨x, h1, h2⟩, q, h3, h4⟩ := h a ha
  constructor
  · rw [x_un _ _ (by omega)]
    by_cases e : a = w
    · subst e
      rw [show 20 + 7 * a = 20 + (7 * a + 0) by omega, x_ub, show 20 + (7 * a + 0) = 20 + 7 * a by omega, h2, nI_add]
      exact ⟨x + 1, by omega, rfl⟩
    · rw [x_un _ _ (by omega), h2]
      exact ⟨x, by omega, rfl⟩
  · by_cases e : a = w
    · subst e
      rw [show 21 + 7 * a = 20 + (7 * a + 1) by omega, x_ub, x_un _ _ (by omega), show 20 + (7 * a + 1) = 21 + 7 * a by omega, h4, nI_add]
      exact ⟨q + c, by omega, rfl⟩
    · rw [x_un _ _ (by omega), x_un _ _ (by omega), h4]
      exact ⟨q, by omega, rfl⟩
theorem m_Bd.u {t : Nat} {v : x_V} (h : m_Bd t v) {k : Nat} (hk : k < 20) (x : Int32) : m_Bd t (x_u v k x) := h.lo (fun j hj => x_un _ _ (by omega))
theorem m_Bd.spit {T : x_TT} {t : Nat} {v : x_V} (h : m_Bd t v) {w : Nat} (h9 : v 9 = nI w) (h6 : w < 6) : m_Bd t (m_spit T v) := by
  have h1 : m_Bd t (m_sp1 v) := by
    rw [m_sp1]
    exact (h.u (k := 3) (by decide) 0).tm (w := w) (q := 6) (by rw [x_un _ _ (by decide)]; exact h9) h6 (by decide) (by decide) 1
  rw [m_spit]
  split
  · exact h1.tm (w := w) (q := 4) (by rw [m_sp1_k _ (by decide) (by decide)]; exact h9) h6 (by decide) (by decide) _
  · exact h1
theorem m_Bd.step {T : x_TT} {N t : Nat} {v : x_V} (h : m_Bd t v) (hJ : (∃ w, w < 6 ∧ v 9 = nI w) ∨ T.1 1 7 ≤ 0) : m_Bd (t + 1) (m_step T v) := by
  rw [m_step]
  refine m_Bd.u ?_ (by decide) _
  rw [m_mn]
  by_cases h0 : T.1 1 7 ≤ 0
  · rw [if_pos h0]; exact h.mono (by omega)
  · rw [if_neg h0]
    obtain ⟨w, h6, h9⟩ : ∃ w, w < 6 ∧ v 9 = nI w := by
      rcases hJ with q | q
      · exact q
      · exact absurd q h0
    split
    · rw [m_awake]
      have b1 : m_Bd t (m_w1 T v) := by
        rw [m_w1]
        exact (((h.u (by decide) _).u (by decide) _).u (by decide) _).u (by decide) _
      have b2 : m_Bd t (m_w2 T (m_w1 T v)) := by
        rw [m_w2]
        exact (b1.u (by decide) _).u (by decide) _
      have w9 : m_w2 T (m_w1 T v) 9 = nI w := by rw [m_w2_k T _ (by decide), m_w1_k T _ (by decide)]; exact h9
      obtain ⟨j, -, hj, ej⟩ := m_tells_in T (x_u (m_w1 T v) 4 (m_w1 T v 4 + 1)) (k := 4) (by decide)
      have b3 : m_Bd (t + 1) (m_w3 (m_w2 T (m_w1 T v))) := b2.w3 w9 h6 (hj rfl) (by rw [m_w2, x_ub, ej])
      have u9 : m_w3 (m_w2 T (m_w1 T v)) 9 = nI w := by rw [m_w3_k _ (by decide)]; exact w9
      generalize m_w3 (m_w2 T (m_w1 T v)) = u at b3 u9 ⊢
      have b4 : m_Bd (t + 1) (m_w4 u) := by
        rw [m_w4]
        split
        · split
          · exact b3
          · exact b3.tm (q := 2) u9 h6 (by decide) (by decide) 1
        · exact b3
      have u49 : m_w4 u 9 = nI w := by rw [m_w4_k _ (by decide)]; exact u9
      generalize m_w4 u = u2 at b4 u49 ⊢
      have b5 : m_Bd (t + 1) (m_w5 T u2) := by
        rw [m_w5]
        split
        · exact b4
        · exact b4.spit u49 h6
      generalize m_w5 T u2 = u3 at b5 ⊢
      rw [m_w6]
      split
      · exact b5
      · rw [m_fall]; exact (b5.u (by decide) _).u (by decide) _
    · have b1 : m_Bd t (m_sl1 T v) := by
        rw [m_sl1]
        exact ((h.u (k := 0) (by decide) _).tm (w := w) (q := 3) (by rw [x_un _ _ (by decide)]; exact h9) h6 (by decide) (by decide) 1).u (by decide) _
      have b2 : m_Bd t (m_sl2 (m_sl1 T v)) := by
        rw [m_sl2]; exact b1.u (by decide) _
      refine m_Bd.mono ?_ (Nat.le_succ t)
      rw [m_asleep]
      split
      · exact (b2.u (by decide) _).u (by decide) _
      · exact b2
section MJ
variable {T : x_TT} {N : Nat}
theorem m_Wy.k {v u : x_V} (h : m_Wy T N v) (hI : m_I N u) (e : ∀ k, k = 5 ∨ k = 6 ∨ k = 7 ∨ k = 9 → u k = v k) : m_Wy T N u := by
  obtain ⟨-, w, h1, h2, h3, h4, h5⟩ := h
  exact ⟨hI, w, h1, by rw [e 9 (by omega)]; exact h2, by rw [e 5 (by omega)]; exact h3, by rw [e 6 (by omega)]; exact h4, by rw [e 7 (by omega)]; exact h5⟩
theorem m_J.step (hN : T.1 1 7 = nI N) (hN6 : N ≤ 6) {t : Nat} {v : x_V} (h : m_J T N t v) : m_J T N (t + 1) (m_step T v) := by
  obtain ⟨h1, h2, h3, h4⟩ := h
  refine ⟨?_, by rw [m_step_k T v (by unfold m_fix; omega)]; exact h2, h3.step (N := N) ?_, h4.step⟩
  · rcases h1 with h1 | h1
    · exact Or.inl (h1.k (h1.1.step hN hN6) (fun k hk => m_step_k T v (by unfold m_fix; omega)))
    · exact Or.inr (h1.step hN)
  · rcases h1 with ⟨-, w, h1, h2, -⟩ | h1
    · exact Or.inl ⟨w, by omega, h2⟩
    · exact Or.inr (by rw [hN, h1.1]; decide)
theorem m_J.goes (hN : T.1 1 7 = nI N) (hN6 : N ≤ 6) : ∀ (d : Nat) {t : Nat} {v : x_V}, m_J T N t v → m_J T N (t + d) (m_goes T d v) := by
  intro d
  induction d with
  | zero => intro t v h; exact h
  | succ d ih =>
    intro t v h
    have := ih (h.step hN hN6)
    rw [show t + 1 + d = t + (d + 1) by omega] at this
    exact this
theorem m_over_lo (v : x_V) (a : Int32) {k : Nat} (h : 20 ≤ k) : m_over T v a k = v k := m_over_k T v a (by omega)
theorem m_J.over (hN6 : N ≤ 6) (hB : m_TB T N) {t : Nat} {v : x_V} (h : m_J T N t v) {b : Nat} (hb : b < N) : m_J T N t (m_over T v (nI b)) := by
  obtain ⟨h1, h2, h3, h4⟩ := h
  refine ⟨?_, by rw [m_over_k T v _ (by decide)]; exact h2, h3.lo (fun k hk => m_over_lo v _ hk), h4.e (m_over_k T v _ (by decide))⟩
  rcases h1 with h1 | h1
  · refine Or.inl ⟨h1.1.over hB hb, b, hb, ?_, ?_, ?_, ?_⟩
    · rw [m_over]; exact (m_give_9 T _ _).1
    · rw [m_over, (m_give_9 T _ _).2.1, m_atT, if_pos (x_inb_nI (by omega) (by decide)), x_ix_nI (by omega)]
    · rw [m_over, (m_give_9 T _ _).2.2.1, m_atT, if_pos (x_inb_nI (by omega) (by decide)), x_ix_nI (by omega)]
    · rw [m_over, (m_give_9 T _ _).2.2.2, m_atT, if_pos (x_inb_nI (by omega) (by decide)), x_ix_nI (by omega)]
  · exact absurd hb (by rw [h1.1]; omega)
theorem x_min99 {x f : Nat} (hx : x ≤ 99) (hf : f ≤ 99) : ∃ j, j ≤ 99 ∧ (if nI x + nI f < 99 then nI x + nI f else 99) = nI j := by
  rw [nI_add, show (99 : Int32) = nI 99 from rfl]
  by_cases q : x + f < 99
  · rw [if_pos (nI_lt q (by decide))]; exact ⟨x + f, by omega, rfl⟩
  · rw [if_neg (nI_nlt (a := x + f) (b := 99) (by omega) (by omega))]; exact ⟨99, by decide, rfl⟩
theorem m_I.feed (hB : m_TB T N) {v : x_V} (h : m_I N v) : m_I N (m_feed T v) := by
  obtain ⟨h9, h13, h2, ⟨x, x99, ex⟩, h12⟩ := h
  obtain ⟨-, ⟨f, f99, ef⟩, -⟩ := hB
  refine ⟨by rw [m_feed, x_un _ _ (by decide), x_un _ _ (by decide)]; exact h9, by rw [m_feed, x_un _ _ (by decide), x_un _ _ (by decide)]; exact h13, by rw [m_feed, x_un _ _ (by decide), x_un _ _ (by decide)]; exact h2, ?_, by rw [m_feed, x_un _ _ (by decide), x_un _ _ (by decide)]; exact h12⟩
  rw [m_feed, x_ub, ex, ef]
  exact x_min99 x99 f99
theorem m_feed_k (v : x_V) {k : Nat} (h : k ≠ 0 ∧ k ≠ 3) : m_feed T v k = v k := by
  rw [m_feed, x_un _ _ (by omega), x_un _ _ (by omega)]
theorem m_Z.k {v u : x_V} (h : m_Z N v) (e : ∀ k, k = 9 ∨ k = 13 ∨ k = 12 → u k = v k) : m_Z N u := ⟨h.1, by rw [e 9 (by omega)]; exact h.2.1, by rw [e 13 (by omega)]; exact h.2.2.1, by rw [e 12 (by omega)]; exact h.2.2.2⟩
theorem m_J.feed (hB : m_TB T N) {t : Nat} {v : x_V} (h : m_J T N t v) : m_J T N t (m_feed T v) := by
  obtain ⟨h1, h2, h3, h4⟩ := h
  refine ⟨?_, by rw [m_feed_k v (by decide)]; exact h2, h3.lo (fun k hk => m_feed_k v (by omega)), h4.e (m_feed_k v (by decide))⟩
  rcases h1 with h1 | h1
  · exact Or.inl (h1.k (h1.1.feed hB) (fun k hk => m_feed_k v (by omega)))
  · exact Or.inr (h1.k (fun k hk => m_feed_k v (by omega)))
theorem m_I.fall {v : x_V} (h : m_I N v) : m_I N (m_fall v) := by
  obtain ⟨h9, h13, h2, h3, h12⟩ := h
  refine ⟨by rw [m_fall_k v (by decide)]; exact h9, ⟨60, by decide, by rw [m_fall, x_un _ _ (by decide), x_ub]; rfl⟩, by rw [m_fall_k v (by decide)]; exact h2, by rw [m_fall_k v (by decide)]; exact h3, by rw [m_fall_k v (by decide)]; exact h12⟩
theorem m_J.fall {t : Nat} {v : x_V} (h : m_J T N t v) (hN : 0 < N) : m_J T N (t + 1) (m_fall v) := by
  obtain ⟨h1, h2, h3, x, hx, ex⟩ := h
  refine ⟨?_, by rw [m_fall_k v (by decide)]; exact h2, (h3.lo (fun k hk => m_fall_k v (by omega))).mono (by omega), x + 1, by omega, by rw [m_fall, x_ub, ex, nI_1]⟩
  rcases h1 with h1 | h1
  · exact Or.inl (h1.k h1.1.fall (fun k hk => m_fall_k v (by omega)))
  · exact absurd hN (by rw [h1.1]; omega)
theorem m_I.u {v : x_V} (h : m_I N v) {k : Nat} (hk : k ≠ 9 ∧ k ≠ 13 ∧ k ≠ 2 ∧ k ≠ 3 ∧ k ≠ 12) (x : Int32) : m_I N (x_u v k x) := by
  obtain ⟨h9, h13, h2, h3, h12⟩ := h
  exact ⟨by rw [x_un _ _ (by omega)]; exact h9, by rw [x_un _ _ (by omega)]; exact h13, by rw [x_un _ _ (by omega)]; exact h2, by rw [x_un _ _ (by omega)]; exact h3, by rw [x_un _ _ (by omega)]; exact h12⟩
theorem m_J.u {t : Nat} {v : x_V} (h : m_J T N t v) {k : Nat} (hk : k = 8 ∨ k = 14 ∨ k = 0) (x : Int32) : m_J T N t (x_u v k x) := by
  obtain ⟨h1, h2, h3, h4⟩ := h
  refine ⟨?_, by rw [x_un _ _ (by omega)]; exact h2, h3.u (by omega) x, h4.e (x_un _ _ (by omega))⟩
  rcases h1 with h1 | h1
  · exact Or.inl (h1.k (h1.1.u (by omega) x) (fun k hk => x_un _ _ (by omega)))
  · exact Or.inr (h1.k (fun k hk => x_un _ _ (by omega)))
theorem m_beg_k {k : Nat} (h : k ≠ 9 ∧ k ≠ 4 ∧ k ≠ 5 ∧ k ≠ 6 ∧ k ≠ 7 ∧ k ≠ 19) : m_beg T k = m_beg0 T k := m_give_k T _ _ h
theorem m_beg0_0 {k : Nat} (h : 4 ≤ k ∧ k ≠ 16 ∧ k ≠ 10 ∧ k ≠ 11) : m_beg0 T k = 0 := by
  rw [m_beg0, if_neg (by omega), if_neg (by omega), if_neg (by omega)]
theorem m_J.beg (hN : T.1 1 7 = nI N) (hN6 : N ≤ 6) (hB : m_TB T N) : m_J T N 0 (m_beg T) := by
  have z : ∀ k, k ≠ 9 ∧ k ≠ 4 ∧ k ≠ 5 ∧ k ≠ 6 ∧ k ≠ 7 ∧ k ≠ 19 → (4 ≤ k ∧ k ≠ 16 ∧ k ≠ 10 ∧ k ≠ 11) → m_beg T k = nI 0 := by
    intro k h1 h2; rw [m_beg_k h1, m_beg0_0 h2]; rfl
  refine ⟨?_, ?_, ?_, 0, by omega, z 17 (by decide) (by decide)⟩
  · rcases Nat.eq_zero_or_pos N with h0 | h0
    · refine Or.inr ⟨h0, ?_, z 13 (by decide) (by decide), z 12 (by decide) (by decide)⟩
      rw [m_beg, (m_give_9 T _ _).1, if_pos (by rw [hN, h0]; decide)]
    · have e : (if T.1 1 7 ≤ 0 then (-2 : Int32) else 0) = nI 0 := by rw [if_neg (by rw [hN]; exact nI_nle h0 (by omega))]; rfl
      obtain ⟨b2, h2, e2⟩ := hB.2.2.1 2 (by decide)
      obtain ⟨b3, h3, e3⟩ := hB.2.2.1 3 (by decide)
      refine Or.inl ⟨⟨⟨0, h0, ?_⟩, ⟨0, by decide, z 13 (by decide) (by decide)⟩, ⟨b2, h2, ?_⟩, ⟨b3, h3, ?_⟩, ⟨0, by decide, z 12 (by decide) (by decide)⟩⟩, 0, h0, ?_, ?_, ?_, ?_⟩
      · rw [m_beg, (m_give_9 T _ _).1, e]
      · rw [m_beg_k (by decide), m_beg0, if_pos (by decide)]; exact e2
      · rw [m_beg_k (by decide), m_beg0, if_pos (by decide)]; exact e3
      · rw [m_beg, (m_give_9 T _ _).1, e]
      · rw [m_beg, (m_give_9 T _ _).2.1, e, m_atT, if_pos (x_inb_nI (by omega) (by decide)), x_ix_nI (by omega)]
      · rw [m_beg, (m_give_9 T _ _).2.2.1, e, m_atT, if_pos (x_inb_nI (by omega) (by decide)), x_ix_nI (by omega)]
      · rw [m_beg, (m_give_9 T _ _).2.2.2, e, m_atT, if_pos (x_inb_nI (by omega) (by decide)), x_ix_nI (by omega)]
  · rw [m_beg_k (by decide)]; rfl
  · intro a ha
    exact ⟨⟨0, by omega, z _ (by omega) (by omega)⟩, 0, by omega, z _ (by omega) (by omega)⟩
end MJ
