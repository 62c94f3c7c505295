/-! READING: both go on alike: the token, the step, the faults -/
def p_nt (P : Nat → Nat) (q : Nat) (σ μ : x_Hp) : Prop := (σ.1 14 10 = 0 ∧ μ.1 0 15 = 0 ∧ σ.1 14 11 = -1) ∨ ∃ w j, (w = 3 ∨ w = 5) ∧ j < q ∧ σ.1 14 10 = nI w ∧ μ.1 0 15 = nI w ∧ σ.1 14 11 = nI (P j) ∧ μ.1 0 16 = nI (P j)
def p_R (σ0 μ0 : x_Hp) (P : Nat → Nat) (m sd q h : Nat) (σ μ : x_Hp) : Prop := c_F σ0 σ ∧ y_F sd μ0 μ ∧ sd < 2 ∧ (h ≤ 400 ∧ h < m) ∧ σ.1 14 6 = nI h ∧ μ.1 0 11 = nI h ∧ μ.1 0 13 = 0 ∧ p_nt P q σ μ ∧ μ.1 0 19 = nI sd
def y_bd (sd B : Nat) (μ : x_Hp) : Prop := (∃ b, 130 * sd ≤ b ∧ b ≤ 130 * sd + B ∧ μ.1 0 34 = nI b) ∧ ∃ w c, w ≤ 40 ∧ μ.1 0 44 = nI w ∧ 420 * sd ≤ c ∧ c + w ≤ 420 * sd + 419 ∧ μ.1 0 40 = nI c
def p_C (σ0 : x_Hp) (k pl : Nat) (σ : x_Hp) : Prop := c_F σ0 σ ∧ σ.1 14 10 = nI k ∧ σ.1 14 11 = nI pl
/-- both hold the same fault -/
def p_bad (σ0 μ0 : x_Hp) (sd B : Nat) (σ μ : x_Hp) : Prop := ∃ k pl, p_C σ0 k pl σ ∧ y_X sd μ0 k pl B μ
/-- only the place of reading and the faults differ -/
def c_hd (σ τ : x_Hp) : Prop := (∀ a b, a ≠ 19 → ¬ (a = 14 ∧ (b = 6 ∨ b = 10 ∨ b = 11)) → τ.1 a b = σ.1 a b) ∧ ∀ a b, τ.2 a b = σ.2 a b
def y_hd (μ τ : x_Hp) : Prop := (∀ a b, ¬ (a = 0 ∧ (b = 11 ∨ (13 ≤ b ∧ b ≤ 16))) → τ.1 a b = μ.1 a b) ∧ ∀ a b, τ.2 a b = μ.2 a b
theorem c_hd.same (σ : x_Hp) : c_hd σ σ := ⟨fun _ _ _ _ => rfl, fun _ _ => rfl⟩
theorem y_hd.same (σ : x_Hp) : y_hd σ σ := ⟨fun _ _ _ => rfl, fun _ _ => rfl⟩
theorem c_hd.tr {σ τ ρ : x_Hp} (h : c_hd σ τ) (g : c_hd τ ρ) : c_hd σ ρ := ⟨fun a b p q => (g.1 a b p q).trans (h.1 a b p q), fun a b => (g.2 a b).trans (h.2 a b)⟩
theorem y_hd.tr {σ τ ρ : x_Hp} (h : y_hd σ τ) (g : y_hd τ ρ) : y_hd σ ρ := ⟨fun a b p => (g.1 a b p).trans (h.1 a b p), fun a b => (g.2 a b).trans (h.2 a b)⟩
theorem c_hd.pI (σ : x_Hp) {a b : Nat} (q : a = 19 ∨ (a = 14 ∧ (b = 6 ∨ b = 10 ∨ b = 11))) (x : Int32) : c_hd σ (x_pI σ a b x) := ⟨fun c d z1 z2 => by rw [x_pI_1, if_neg (fun w : c = a ∧ d = b => by obtain ⟨rfl, rfl⟩ := w; rcases q with q | q; exact z1 q; exact z2 q)], fun _ _ => rfl⟩
theorem y_hd.pI (σ : x_Hp) {a b : Nat} (q : a = 0 ∧ (b = 11 ∨ (13 ≤ b ∧ b ≤ 16))) (x : Int32) : y_hd σ (x_pI σ a b x) := ⟨fun c d z1 => by rw [x_pI_1, if_neg (fun w : c = a ∧ d = b => by obtain ⟨rfl, rfl⟩ := w; exact z1 q)], fun _ _ => rfl⟩
theorem y_bd.hd {sd B : Nat} {μ τ : x_Hp} (h : y_bd sd B μ) (g : y_hd μ τ) : y_bd sd B τ := by
  obtain ⟨⟨b, b1, b2, b3⟩, w, c, w1, w2, w3, w4, w5⟩ := h
  exact ⟨⟨b, b1, b2, by rw [g.1 _ _ (by omega)]; exact b3⟩, w, c, w1, by rw [g.1 _ _ (by omega)]; exact w2, w3, w4, by rw [g.1 _ _ (by omega)]; exact w5⟩
def n_kl : List Nat := List.range 25 ++ [30, 31, 32, 33, 59, 61, 40, 41, 43, 45, 42, 60, 47]
theorem n_kd.mem {a : Nat} (h : n_kd a) : a ∈ n_kl := by
  unfold n_kd at h
  rcases h with h | h | h | h | h | h | h | h | h | h | h | h | h | h
  · exact List.mem_append_left _ (List.mem_range.mpr h)
  all_goals (subst h; decide)
theorem n_tk_inj' : ∀ a, a ∈ n_kl → ∀ b, b ∈ n_kl → (n_tk a = n_tk b ↔ a = b) := by decide +kernel
theorem n_tk_lt' : ∀ a, a ∈ n_kl → n_tk a < 50 := by decide +kernel
theorem n_tk_inj (a b : Nat) (ha : n_kd a) (hb : n_kd b) : n_tk a = n_tk b ↔ a = b := n_tk_inj' a ha.mem b hb.mem
theorem n_tk_lt (a : Nat) (ha : n_kd a) : n_tk a < 50 := n_tk_lt' a ha.mem
section GOOD
variable {σ0 μ0 σ μ : x_Hp} {K P : Nat → Nat} {m sd q h B : Nat}
theorem p_R.tk (ht : t_fin σ0 μ0 K P m) (g : p_R σ0 μ0 P m sd q h σ μ) {j : Nat} (hj : j < m) : t_tok σ μ j (K j) (P j) := by
  obtain ⟨h1, h2, h3, h4, h5, h6, h7, h8⟩ := ht.2.2.1 j hj
  have c := g.1; have y := g.2.1
  refine ⟨h1, h2, by rw [c.1 _ _ (by omega)]; exact h3, by rw [c.1 _ _ (by omega)]; exact h4, by rw [y.1 _ _ (by unfold y_Fs; omega)]; exact h5, by rw [y.1 _ _ (by unfold y_Fs; omega)]; exact h6, fun z => ?_, fun z => by rw [c.2 _ _ (by omega), y.2 _ _ (by omega)]; exact h8 z⟩
  obtain ⟨wv, w1, w2, w3⟩ := h7 z
  exact ⟨wv, w1, by rw [c.2 _ _ (by omega)]; exact w2, by rw [y.1 _ _ (by unfold y_Fs; omega)]; exact w3⟩
theorem p_R.kind (ht : t_fin σ0 μ0 K P m) (g : p_R σ0 μ0 P m sd q h σ μ) : F_X4_kind σ = some (nI (K h), σ) := by
  rw [F_X4_kind, e_at, g.2.2.2.2.1, x_aT_nI _ _ (by rw [lnX_16]; have := g.2.2.2.1; omega), (g.tk ht g.2.2.2.1.2).2.2.1, x_b_s]
theorem p_R.is (ht : t_fin σ0 μ0 K P m) (g : p_R σ0 μ0 P m sd q h σ μ) {kc : Nat} (hk : n_kd kc) : F_X9_is (nI (n_tk kc)) μ = some (if K h = kc then 1 else 0, μ) := by
  have h4 := g.2.2.2.1
  have tk := g.tk ht h4.2
  have h1 := n_tk_lt _ tk.1
  have h2 := n_tk_lt _ hk
  rw [F_X9_is, g.2.2.2.2.2.2.1, if_pos rfl, g.2.2.2.2.2.1, x_gd_t (x_inb_nI (by omega) (by decide)), x_ix_nI (by omega), tk.2.2.2.2.1]
  by_cases z : K h = kc
  · rw [if_pos (by rw [z]), if_pos z]
  · rw [if_neg (fun w => z ((n_tk_inj _ _ tk.1 hk).mp ((nI_eq (by omega) (by omega)).mp w))), if_neg z]
theorem p_R.k13 (g : p_R σ0 μ0 P m sd q h σ μ) : μ.1 0 13 = 0 := g.2.2.2.2.2.2.1
/-- a fault that ends the reading -/
theorem p_fail (ht : t_fin σ0 μ0 K P m) (g : p_R σ0 μ0 P m sd q h σ μ) (hb : y_bd sd B μ) {k : Nat} (hk : k = 1 ∨ k = 2) : ∃ τ ν, F_X4_fail (nI k) σ = some (0, τ) ∧ F_X9_fail (nI k) μ = some ((), ν) ∧ p_C σ0 k (P h) τ ∧ y_X sd μ0 k (P h) B ν ∧ y_hd μ ν := by
  have h4 := g.2.2.2.1
  have tk := g.tk ht h4.2
  have e6 : (x_pI σ 14 10 (nI k)).1 14 6 = nI h := by rw [x_pI_1, if_neg (by omega)]; exact g.2.2.2.2.1
  refine ⟨x_pI (x_pI σ 14 10 (nI k)) 14 11 (nI (P h)), x_pI (x_pI μ 0 13 (nI k)) 0 14 (nI (P h)), ?_, ?_, ⟨?_, ?_, ?_⟩, ?_, (y_hd.pI μ (a := 0) (b := 13) (by omega) (nI k)).tr (y_hd.pI _ (a := 0) (b := 14) (by omega) (nI (P h)))⟩
  · rw [F_X4_fail, x_pt_s, e6, if_neg (nI_pos (by omega)), if_neg (show ¬ (402 : Int32) ≤ nI h from nI_ge (b := 402) (by omega) (by decide)), x_gd_t (x_inb_nI (by omega) (by decide)), x_ix_nI (by omega), F_X4_fail_41, x_pt_s, x_pI_1, if_neg (by omega), tk.2.2.2.1]
  · rw [F_X9_fail, g.k13, if_pos (by decide), x_pt_s, x_pI_1, if_neg (by omega), g.2.2.2.2.2.1, x_gd_t (x_inb_nI (by omega) (by decide)), x_ix_nI (by omega), x_pI_1, if_neg (by omega), tk.2.2.2.2.2.1, x_pt_s]
  · exact (g.1.pI (by omega) _).pI (by omega) _
  · rw [x_pI_1, if_neg (by omega), x_pI_1, if_pos ⟨rfl, rfl⟩]
  · rw [x_pI_1, if_pos ⟨rfl, rfl⟩]
  · obtain ⟨⟨b, b1, b2, b3⟩, w, c, w1, w2, w3, w4, w5⟩ := hb
    have e : ∀ d, d ≠ 13 → d ≠ 14 → (x_pI (x_pI μ 0 13 (nI k)) 0 14 (nI (P h))).1 0 d = μ.1 0 d := fun d d1 d2 => by rw [x_pI_1, if_neg (by omega), x_pI_1, if_neg (by omega)]
    exact ⟨(g.2.1.pI (by unfold y_Fs; omega) _).pI (by unfold y_Fs; omega) _, g.2.2.1, hk, by rw [x_pI_1, if_neg (by omega), x_pI_1, if_pos ⟨rfl, rfl⟩], by rw [x_pI_1, if_pos ⟨rfl, rfl⟩], by rw [e _ (by decide) (by decide)]; exact g.2.2.2.2.2.2.2.2, ⟨h, h4.1, by rw [e _ (by decide) (by decide)]; exact g.2.2.2.2.2.1⟩, ⟨b, b1, b2, by rw [e _ (by decide) (by decide)]; exact b3⟩, w, c, w1, by rw [e _ (by decide) (by decide)]; exact w2, w3, w4, by rw [e _ (by decide) (by decide)]; exact w5⟩
theorem p_nt.hd {σ μ τ ν : x_Hp} (h : p_nt P q σ μ) {q' : Nat} (hq : q ≤ q') (h1 : τ.1 14 10 = σ.1 14 10) (h2 : τ.1 14 11 = σ.1 14 11) (h3 : ν.1 0 15 = μ.1 0 15) (h4 : ν.1 0 16 = μ.1 0 16) : p_nt P q' τ ν := by
  rcases h with ⟨a, b, c⟩ | ⟨w, j, a, b, c, d, e, f⟩
  · exact Or.inl ⟨h1.trans a, h3.trans b, h2.trans c⟩
  · exact Or.inr ⟨w, j, a, by omega, h1.trans c, h3.trans d, h2.trans e, h4.trans f⟩
/-- a step on -/
theorem p_step (ht : t_fin σ0 μ0 K P m) (g : p_R σ0 μ0 P m sd q h σ μ) (hq : q ≤ h + 1) (hk : K h ≠ 32) (hb : y_bd sd B μ) : (h < 400 ∧ F_X4_take σ = some (1, x_pI σ 14 6 (nI (h + 1))) ∧ F_X9_goesOn μ = some ((), x_pI μ 0 11 (nI (h + 1))) ∧ p_R σ0 μ0 P m sd (h + 1) (h + 1) (x_pI σ 14 6 (nI (h + 1))) (x_pI μ 0 11 (nI (h + 1)))) ∨ (∃ τ ν, F_X4_take σ = some (0, τ) ∧ F_X9_goesOn μ = some ((), ν) ∧ p_bad σ0 μ0 sd B τ ν ∧ y_hd μ ν) := by
  have h4 := g.2.2.2.1
  by_cases z : h < 400
  · have hm : h + 1 < m := by
      rcases Nat.lt_or_ge (h + 1) m with y | y
      · exact y
      · exact absurd (by have := ht.2.2.2.2.2 (by omega); rw [show m - 1 = h by omega] at this; exact this) hk
    refine Or.inl ⟨z, ?_, ?_, ⟨g.1.pI (by omega) _, g.2.1.pI (by unfold y_Fs; omega) _, g.2.2.1, ⟨z, hm⟩, by rw [x_pI_1, if_pos ⟨rfl, rfl⟩], by rw [x_pI_1, if_pos ⟨rfl, rfl⟩], by rw [x_pI_1, if_neg (by omega)]; exact g.k13, g.2.2.2.2.2.2.2.1.hd hq (by rw [x_pI_1, if_neg (by omega)]) (by rw [x_pI_1, if_neg (by omega)]) (by rw [x_pI_1, if_neg (by omega)]) (by rw [x_pI_1, if_neg (by omega)]), by rw [x_pI_1, if_neg (by omega)]; exact g.2.2.2.2.2.2.2.2⟩⟩
    · rw [F_X4_take, g.2.2.2.2.1, if_pos (show nI h < (400 : Int32) from nI_lt (b := 400) z (by decide)), x_pt_s, nI_1]
    · rw [F_X9_goesOn, g.2.2.2.2.2.1, if_neg (show ¬ nI h = (400 : Int32) from fun w => by have : h = 400 := (nI_eq (b := 400) (by omega) (by decide)).mp w; omega), x_pt_s, nI_1]
  · have hh : h = 400 := by omega
    obtain ⟨τ, ν, a, b, c, d, e⟩ := p_fail ht g hb (k := 2) (Or.inr rfl)
    refine Or.inr ⟨τ, ν, ?_, ?_, ⟨2, P h, c, d⟩, e⟩
    · rw [F_X4_take, g.2.2.2.2.1, if_neg (show ¬ nI h < (400 : Int32) from nI_nlt (a := h) (b := 400) (by omega) (by omega)), show (2 : Int32) = nI 2 from rfl, a, x_b_s, x_gd_t (by decide)]
    · rw [F_X9_goesOn, g.2.2.2.2.2.1, if_pos (by rw [hh]; rfl), show (2 : Int32) = nI 2 from rfl, b, x_b_s]
/-- a token that must be there -/
theorem p_must (ht : t_fin σ0 μ0 K P m) (g : p_R σ0 μ0 P m sd q h σ μ) (hq : q ≤ h + 1) (hb : y_bd sd B μ) {kc : Nat} (hk : n_kd kc) (hk2 : kc ≠ 32) : (K h = kc ∧ h < 400 ∧ F_X4_take_ (nI kc) σ = some (1, x_pI σ 14 6 (nI (h + 1))) ∧ F_X9_must (nI (n_tk kc)) μ = some ((), x_pI μ 0 11 (nI (h + 1))) ∧ p_R σ0 μ0 P m sd (h + 1) (h + 1) (x_pI σ 14 6 (nI (h + 1))) (x_pI μ 0 11 (nI (h + 1)))) ∨ (∃ τ ν, F_X4_take_ (nI kc) σ = some (0, τ) ∧ F_X9_must (nI (n_tk kc)) μ = some ((), ν) ∧ p_bad σ0 μ0 sd B τ ν) := by
  have h4 := g.2.2.2.1
  have tk := g.tk ht h4.2
  have n1 : K h < 62 := by have := tk.1; unfold n_kd at this; omega
  have n2 : kc < 62 := by unfold n_kd at hk; omega
  by_cases z : K h = kc
  · rcases p_step ht g hq (by rw [z]; exact hk2) hb with ⟨a, b, c, d⟩ | ⟨τ, ν, b, c, d, _⟩
    · refine Or.inl ⟨z, a, ?_, ?_, d⟩
      · rw [F_X4_take_, g.kind ht, x_b_s, if_pos (by rw [z]), b, x_b_s, x_gd_t (by decide)]
      · rw [F_X9_must, g.is ht hk, x_b_s, if_pos z, if_neg (by decide), c, x_b_s]
    · refine Or.inr ⟨τ, ν, ?_, ?_, d⟩
      · rw [F_X4_take_, g.kind ht, x_b_s, if_pos (by rw [z]), b, x_b_s, x_gd_t (by decide)]
      · rw [F_X9_must, g.is ht hk, x_b_s, if_pos z, if_neg (by decide), c, x_b_s]
  · obtain ⟨τ, ν, a, b, c, d, _⟩ := p_fail ht g hb (k := 1) (Or.inl rfl)
    refine Or.inr ⟨τ, ν, ?_, ?_, 1, P h, c, d⟩
    · rw [F_X4_take_, g.kind ht, x_b_s, if_neg (fun w => z ((nI_eq (by omega) (by omega)).mp w)), show (1 : Int32) = nI 1 from rfl, a, x_b_s, x_gd_t (by decide)]
    · rw [F_X9_must, g.is ht hk, x_b_s, if_neg z, if_pos rfl, show (1 : Int32) = nI 1 from rfl, b, x_b_s]
/-- a fault that is only noted -/
theorem p_note (ht : t_fin σ0 μ0 K P m) (g : p_R σ0 μ0 P m sd h h σ μ) {w : Nat} (hw : w = 3 ∨ w = 5) : ∃ τ ν, F_X4_note (nI w) σ = some ((), τ) ∧ F_X9_wrong (nI w) (nI h) μ = some ((), ν) ∧ p_R σ0 μ0 P m sd (h + 1) h τ ν ∧ c_hd σ τ ∧ y_hd μ ν ∧ ¬ τ.1 14 10 = 0 ∧ (∀ a b, a ≠ 14 → τ.1 a b = σ.1 a b) := by
  have h4 := g.2.2.2.1
  have tk := g.tk ht h4.2
  have w5 : w ≤ 5 := by omega
  have hwn : ¬ nI w = 0 := by rcases hw with rfl | rfl <;> decide
  have hi : x_inb (nI h) 403 = true := x_inb_nI (by omega) (by decide)
  have lk : ¬ (0 : Int32) < μ.1 0 13 := by rw [g.k13]; decide
  have hP : ∀ j, j < m → P j ≤ 2000 := fun j hj => (g.tk ht hj).2.1
  rcases g.2.2.2.2.2.2.2.1 with ⟨a, b, c⟩ | ⟨w', j, a, b, c, d, e, f⟩
  · have e6 : (x_pI σ 14 10 (nI w)).1 14 6 = nI h := by rw [x_pI_1, if_neg (by omega)]; exact g.2.2.2.2.1
    have hc := (c_hd.pI σ (a := 14) (b := 10) (by omega) (nI w)).tr (c_hd.pI _ (a := 14) (b := 11) (by omega) (nI (P h)))
    have hy := (y_hd.pI μ (a := 0) (b := 15) (by omega) (nI w)).tr (y_hd.pI _ (a := 0) (b := 16) (by omega) (nI (P h)))
    refine ⟨x_pI (x_pI σ 14 10 (nI w)) 14 11 (nI (P h)), x_pI (x_pI μ 0 15 (nI w)) 0 16 (nI (P h)), ?_, ?_, ⟨(g.1.pI (by omega) _).pI (by omega) _, (g.2.1.pI (by unfold y_Fs; omega) _).pI (by unfold y_Fs; omega) _, g.2.2.1, h4, ?_, ?_, ?_, Or.inr ⟨w, h, hw, by omega, ?_, ?_, ?_, ?_⟩, ?_⟩, hc, hy, ?_, ?_⟩
    · rw [F_X4_note, a, if_pos rfl, F_X4_fail, x_pt_s, e6, if_neg (nI_pos (by omega)), if_neg (show ¬ (402 : Int32) ≤ nI h from nI_ge (b := 402) (by omega) (by decide)), x_gd_t (x_inb_nI (by omega) (by decide)), x_ix_nI (by omega), F_X4_fail_41, x_pt_s, x_pI_1, if_neg (by omega), tk.2.2.2.1, x_b_s]
    · rw [F_X9_wrong, x_gd_t hi, if_neg lk, b, if_pos rfl, x_ix_nI (by omega), tk.2.2.2.2.2.1, F_X9_wrong_46, x_pt_s, x_pt_s]
    · rw [x_pI_1, if_neg (by omega)]; exact e6
    · rw [x_pI_1, if_neg (by omega), x_pI_1, if_neg (by omega)]; exact g.2.2.2.2.2.1
    · rw [x_pI_1, if_neg (by omega), x_pI_1, if_neg (by omega)]; exact g.k13
    · rw [x_pI_1, if_neg (by omega), x_pI_1, if_pos ⟨rfl, rfl⟩]
    · rw [x_pI_1, if_neg (by omega), x_pI_1, if_pos ⟨rfl, rfl⟩]
    · rw [x_pI_1, if_pos ⟨rfl, rfl⟩]
    · rw [x_pI_1, if_pos ⟨rfl, rfl⟩]
    · rw [x_pI_1, if_neg (by omega), x_pI_1, if_neg (by omega)]; exact g.2.2.2.2.2.2.2.2
    · rw [x_pI_1, if_neg (by omega), x_pI_1, if_pos ⟨rfl, rfl⟩]; exact hwn
    · intro a b hab; rw [x_pI_1, if_neg (by omega), x_pI_1, if_neg (by omega)]
  · have hw'n : ¬ nI w' = 0 := by rcases a with rfl | rfl <;> decide
    have lt : P j < P h := ht.2.2.2.2.1 j h b h4.2
    have b1 := hP j (by omega)
    have b2 := hP h h4.2
    refine ⟨σ, μ, ?_, ?_, ⟨g.1, g.2.1, g.2.2.1, h4, g.2.2.2.2.1, g.2.2.2.2.2.1, g.k13, g.2.2.2.2.2.2.2.1.hd (by omega) rfl rfl rfl rfl, g.2.2.2.2.2.2.2.2⟩, c_hd.same σ, y_hd.same μ, by rw [c]; exact hw'n, fun _ _ _ => rfl⟩
    · rw [F_X4_note, c, if_neg hw'n]
    · rw [F_X9_wrong, x_gd_t hi, if_neg lk, d, if_neg hw'n, x_ix_nI (by omega), tk.2.2.2.2.2.1, f, if_pos (nI_lt lt (by omega))]
theorem p_R.pIc (g : p_R σ0 μ0 P m sd q h σ μ) {a b : Nat} (z : (a = 14 ∧ b = 9) ∨ (19 ≤ a ∧ a ≤ 32 ∧ ¬ (a = 30 ∧ b = 0))) (x : Int32) : p_R σ0 μ0 P m sd q h (x_pI σ a b x) μ := by
  obtain ⟨g1, g2, g3, g4, g5, g6, g7, g8, g9⟩ := g
  exact ⟨g1.pI (by omega) x, g2, g3, g4, by rw [x_pI_1, if_neg (by omega)]; exact g5, g6, g7, g8.hd (Nat.le_refl _) (by rw [x_pI_1, if_neg (by omega)]) (by rw [x_pI_1, if_neg (by omega)]) rfl rfl, g9⟩
theorem p_R.pIy (g : p_R σ0 μ0 P m sd q h σ μ) {a b : Nat} (z : y_Fs sd a b) (z2 : a = 0 → b = 12 ∨ b = 20 ∨ b = 34 ∨ b = 40 ∨ b = 44) (x : Int32) : p_R σ0 μ0 P m sd q h σ (x_pI μ a b x) := by
  obtain ⟨g1, g2, g3, g4, g5, g6, g7, g8, g9⟩ := g
  have e : ∀ d, d ≠ 12 → d ≠ 20 → d ≠ 34 → d ≠ 40 → d ≠ 44 → (x_pI μ a b x).1 0 d = μ.1 0 d := fun d d1 d2 d3 d4 d5 => by
    rw [x_pI_1, if_neg (fun w => by have := z2 w.1.symm; omega)]
  exact ⟨g1, g2.pI z x, g3, g4, g5, by rw [e _ (by decide) (by decide) (by decide) (by decide) (by decide)]; exact g6, by rw [e _ (by decide) (by decide) (by decide) (by decide) (by decide)]; exact g7, g8.hd (Nat.le_refl _) rfl rfl (e _ (by decide) (by decide) (by decide) (by decide) (by decide)) (e _ (by decide) (by decide) (by decide) (by decide) (by decide)), by rw [e _ (by decide) (by decide) (by decide) (by decide) (by decide)]; exact g9⟩
end GOOD
