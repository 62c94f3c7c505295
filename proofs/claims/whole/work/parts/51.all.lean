/-! ALL THAT BOTH HOLD -/
def r_ix (b len j : Nat) : Nat := 41 + 2 * ((b + 50 - len + j) % 50)
def r_U (σ μ : x_Hp) (T : x_TT) (N t ch : Nat) : Prop := ∃ len b, len ≤ 50 ∧ b < 50 ∧ σ.1 39 1 = nI len ∧ σ.1 39 2 = nI b ∧ σ.1 39 3 = nI ch ∧ μ.1 0 54 = nI len ∧ ∀ j, j < len → m_J T N t (x_gS σ (r_ix b len j)) ∧ ∀ k, k < 60 → μ.1 34 (60 * j + k) = y_rv (x_gS σ (r_ix b len j)) k
def r_S (σ μ : x_Hp) (T : x_TT) (N t : Nat) : Prop := ∀ s, s < 3 → (σ.1 142 s = 0 ∧ μ.1 43 s = 0) ∨ (σ.1 142 s = 1 ∧ μ.1 43 s = 1 ∧ m_J T N t (x_gS σ (171 + 2 * s)) ∧ ∀ k, k < 60 → μ.1 44 (60 * s + k) = y_rv (x_gS σ (171 + 2 * s)) k)
def r_T (σ μ : x_Hp) : Prop := ∃ n, n ≤ 20 ∧ σ.1 0 13 = nI n ∧ μ.1 0 68 = nI n ∧ ∀ j, j < n → (∃ mi, mi < 60 ∧ σ.1 169 j = nI mi ∧ μ.1 41 j = nI mi) ∧ σ.1 170 j = μ.1 42 j
def r_P (σ μ : x_Hp) : Prop := (∃ n, n ≤ 2000 ∧ σ.1 14 1 = nI n ∧ μ.1 0 2 = nI n ∧ σ.1 14 11 = μ.1 0 17 ∧ ∀ j, j < n → ∃ c, c < 256 ∧ σ.1 15 j = nI c ∧ μ.1 1 j &&& 255 = nI c) ∧ σ.1 30 0 = 0
def r_rel (K : Nat) (σ μ : x_Hp) : Prop := ∃ T lv N v ch, r_V σ μ T lv N (241 * K) v ∧ r_U σ μ T N (241 * K) ch ∧ ch ≤ K ∧ r_S σ μ T N (241 * K) ∧ r_T σ μ ∧ r_P σ μ ∧ r_O σ T N v ch
/-- a call of both -/
def r_call (K : Nat) (A B : Option (Int32 × x_Hp)) : Prop := ∃ r τ ν, A = some (r, τ) ∧ B = some (r, ν) ∧ r_rel K τ ν
theorem gS_ag {σ τ : x_Hp} (s : Nat) (h : ∀ b, τ.1 s b = σ.1 s b) (h2 : ∀ b, τ.1 (s + 1) b = σ.1 (s + 1) b) : x_gS τ s = x_gS σ s := by
  funext k
  simp only [x_gS]
  rw [h, h2]
theorem r_ix_in (b len j : Nat) : 41 ≤ r_ix b len j ∧ r_ix b len j + 1 ≤ 140 := by
  rw [r_ix]
  have := Nat.mod_lt (b + 50 - len + j) (show 0 < 50 by decide)
  omega
theorem r_U.ag {σ μ τ ν : x_Hp} {T : x_TT} {N t ch : Nat} (h : r_U σ μ T N t ch) (h1 : ∀ a b, 39 ≤ a → a ≤ 140 → τ.1 a b = σ.1 a b) (h2 : ν.1 0 54 = μ.1 0 54) (h3 : ∀ b, ν.1 34 b = μ.1 34 b) : r_U τ ν T N t ch := by
  obtain ⟨len, b, a1, a2, a3, a4, a5, a6, a7⟩ := h
  refine ⟨len, b, a1, a2, by rw [h1 _ _ (by omega) (by omega)]; exact a3, by rw [h1 _ _ (by omega) (by omega)]; exact a4, by rw [h1 _ _ (by omega) (by omega)]; exact a5, by rw [h2]; exact a6, fun j hj => ?_⟩
  have := r_ix_in b len j
  rw [gS_ag (r_ix b len j) (fun b => h1 _ _ (by omega) (by omega)) (fun b => h1 _ _ (by omega) (by omega))]
  exact ⟨(a7 j hj).1, fun k hk => by rw [h3]; exact (a7 j hj).2 k hk⟩
theorem r_S.ag {σ μ τ ν : x_Hp} {T : x_TT} {N t : Nat} (h : r_S σ μ T N t) (h1 : ∀ a b, a = 142 ∨ (171 ≤ a ∧ a ≤ 176) → τ.1 a b = σ.1 a b) (h2 : ∀ a b, a = 43 ∨ a = 44 → ν.1 a b = μ.1 a b) : r_S τ ν T N t := by
  intro s hs
  rw [h1 142 s (by omega), h2 43 s (by omega), gS_ag (171 + 2 * s) (fun b => h1 _ _ (by omega)) (fun b => h1 _ _ (by omega))]
  rcases h s hs with q | ⟨q1, q2, q3, q4⟩
  · exact Or.inl q
  · exact Or.inr ⟨q1, q2, q3, fun k hk => by rw [h2 44 _ (by omega)]; exact q4 k hk⟩
theorem r_T.ag {σ μ τ ν : x_Hp} (h : r_T σ μ) (h1 : ∀ a b, (a = 0 ∧ b = 13) ∨ a = 169 ∨ a = 170 → τ.1 a b = σ.1 a b) (h2 : ∀ a b, (a = 0 ∧ b = 68) ∨ a = 41 ∨ a = 42 → ν.1 a b = μ.1 a b) : r_T τ ν := by
  obtain ⟨n, a1, a2, a3, a4⟩ := h
  refine ⟨n, a1, by rw [h1 _ _ (by omega)]; exact a2, by rw [h2 _ _ (by omega)]; exact a3, fun j hj => ?_⟩
  rw [h1 169 j (by omega), h1 170 j (by omega), h2 41 j (by omega), h2 42 j (by omega)]
  exact a4 j hj
theorem r_P.ag {σ μ τ ν : x_Hp} (h : r_P σ μ) (h1 : ∀ a b, (a = 14 ∧ (b = 1 ∨ b = 11)) ∨ a = 15 ∨ (a = 30 ∧ b = 0) → τ.1 a b = σ.1 a b) (h2 : ∀ a b, (a = 0 ∧ (b = 2 ∨ b = 17)) ∨ a = 1 → ν.1 a b = μ.1 a b) : r_P τ ν := by
  obtain ⟨⟨n, a1, a2, a3, a4, a5⟩, a6⟩ := h
  refine ⟨⟨n, a1, by rw [h1 _ _ (by omega)]; exact a2, by rw [h2 _ _ (by omega)]; exact a3, by rw [h1 _ _ (by omega), h2 _ _ (by omega)]; exact a4, fun j hj => by rw [h1 15 j (by omega), h2 1 j (by omega)]; exact a5 j hj⟩, by rw [h1 30 0 (by omega)]; exact a6⟩
theorem m_J.c {T : x_TT} {N t : Nat} {u v : x_V} (h : m_J T N t v) (e : e62 u v) : m_J T N t u := by
  obtain ⟨h1, h2, h3, x, h4, h5⟩ := h
  refine ⟨?_, by rw [e 16 (by decide)]; exact h2, ?_, x, h4, by rw [e 17 (by decide)]; exact h5⟩
  · rcases h1 with ⟨⟨a1, a2, a3, a4, a5⟩, w, b1, b2, b3, b4, b5⟩ | ⟨a1, a2, a3, a4⟩
    · exact Or.inl ⟨⟨by rw [e 9 (by decide)]; exact a1, by rw [e 13 (by decide)]; exact a2, by rw [e 2 (by decide)]; exact a3, by rw [e 3 (by decide)]; exact a4, by rw [e 12 (by decide)]; exact a5⟩, w, b1, by rw [e 9 (by decide)]; exact b2, by rw [e 5 (by decide)]; exact b3, by rw [e 6 (by decide)]; exact b4, by rw [e 7 (by decide)]; exact b5⟩
    · exact Or.inr ⟨a1, by rw [e 9 (by decide)]; exact a2, by rw [e 13 (by decide)]; exact a3, by rw [e 12 (by decide)]; exact a4⟩
  · intro a ha
    rw [e _ (by omega), e _ (by omega)]
    exact h3 a ha
theorem y_rv_c {u v : x_V} (e : e62 u v) {k : Nat} (hk : k < 60) : y_rv u k = y_rv v k := y_rv_ext (fun k h1 _ _ _ _ => e k h1) k hk
theorem r_V.mk {τ ν : x_Hp} {T : x_TT} {lv N t : Nat} {u : x_V} (h1 : x_Tx τ T) (h2 : y_Tx ν T lv N) (h3 : m_TB T N) (h4 : e62 (x_gS τ 35) u) (h5 : m_J T N t u) (h6 : ∀ k, k < 60 → ν.1 31 k = y_rv u k) : r_V τ ν T lv N t (x_gS τ 35) :=
  ⟨h1, h2, h3, rfl, h5.c h4, fun k hk => by rw [h6 k hk, y_rv_c h4 hk]⟩
theorem r_V.mono {τ ν : x_Hp} {T : x_TT} {lv N t t' : Nat} {u : x_V} (h : r_V τ ν T lv N t u) (ht : t ≤ t') : r_V τ ν T lv N t' u := ⟨h.1, h.2.1, h.2.2.1, h.2.2.2.1, h.2.2.2.2.1.mono ht, h.2.2.2.2.2⟩
theorem r_U.mono {σ μ : x_Hp} {T : x_TT} {N t t' ch : Nat} (h : r_U σ μ T N t ch) (ht : t ≤ t') : r_U σ μ T N t' ch := by
  obtain ⟨len, b, a1, a2, a3, a4, a5, a6, a7⟩ := h
  exact ⟨len, b, a1, a2, a3, a4, a5, a6, fun j hj => ⟨(a7 j hj).1.mono ht, (a7 j hj).2⟩⟩
theorem r_S.mono {σ μ : x_Hp} {T : x_TT} {N t t' : Nat} (h : r_S σ μ T N t) (ht : t ≤ t') : r_S σ μ T N t' := by
  intro s hs
  rcases h s hs with q | ⟨q1, q2, q3, q4⟩
  · exact Or.inl q
  · exact Or.inr ⟨q1, q2, q3.mono ht, q4⟩
/-- a query's end -/
theorem q_S.call {K : Nat} {σ μ : x_Hp} {A B : Option (Int32 × x_Hp)} (h : r_rel K σ μ) (q : q_S σ μ A B) : r_call (K + 1) A B := by
  obtain ⟨T, lv, N, v, ch, h1, h2, h3, h4, h5, h6, h7⟩ := h
  obtain ⟨r, τ, ν, a, b, hs, hm⟩ := q
  refine ⟨r, τ, ν, a, b, T, lv, N, v, ch, (h1.sm hs hm).mono (by omega), (h2.ag (fun a b h1 h2 => hs a b (by unfold x_Sb; omega)) (hm _ _ (by unfold y_Sb; omega)) (fun b => hm _ _ (by unfold y_Sb; omega))).mono (by omega), by omega, (h4.ag (fun a b h => hs a b (by unfold x_Sb; omega)) (fun a b h => hm a b (by unfold y_Sb; omega))).mono (by omega), h5.ag (fun a b h => hs a b (by unfold x_Sb; omega)) (fun a b h => hm a b (by unfold y_Sb; omega)), h6.ag (fun a b h => hs a b (by unfold x_Sb; omega)) (fun a b h => hm a b (by unfold y_Sb; omega)), h7.ag (fun a b h1 h2 => hs a b (by unfold x_Sb; omega))⟩
theorem q_SO.call {K : Nat} {σ μ : x_Hp} {A B : Option (Int32 × x_Hp)} (h : r_rel K σ μ) (q : ∀ T lv N v ch, r_V σ μ T lv N (241 * K) v → r_O σ T N v ch → σ.1 39 3 = nI ch → ch ≤ K → q_SO σ μ T N v ch A B) : r_call (K + 1) A B := by
  obtain ⟨T, lv, N, v, ch, h1, h2, h3, h4, h5, h6, h7⟩ := h
  obtain ⟨len, bb, u1, u2, u3, u4, u5, u6⟩ := id h2
  obtain ⟨r, τ, ν, a, b, hs, hm, hO⟩ := q T lv N v ch h1 h7 u5 h3
  exact ⟨r, τ, ν, a, b, T, lv, N, v, ch, (h1.so hs hm).mono (by omega), (h2.ag (fun a b h1 h2 => hs a b (by omega)) (hm _ _ (by unfold y_Sb; omega)) (fun b => hm _ _ (by unfold y_Sb; omega))).mono (by omega), by omega, (h4.ag (fun a b h => hs a b (by omega)) (fun a b h => hm a b (by unfold y_Sb; omega))).mono (by omega), h5.ag (fun a b h => hs a b (by omega)) (fun a b h => hm a b (by unfold y_Sb; omega)), h6.ag (fun a b h => hs a b (by omega)) (fun a b h => hm a b (by unfold y_Sb; omega)), hO⟩
/-- nothing happens -/
theorem r_rel.same {K : Nat} {σ μ : x_Hp} (h : r_rel K σ μ) (r : Int32) : r_call (K + 1) (some (r, σ)) (some (r, μ)) := q_S.call h (q_S.c σ μ r)
