/-! THE BEGINNING, the reference's; FED -/
theorem y_rowset {τ ρ : x_Hp} {lv : Nat} (hlv : lv < 2) (h18 : τ.1 0 18 = nI lv) {v : x_V} (h1 : ∀ k, k < 60 → ρ.1 32 k = y_rv v k) (h2 : ∀ a b, a ≠ 32 ∨ 60 ≤ b → ρ.1 a b = τ.1 a b) (h3 : ρ.2 = τ.2) : F_X9_plainly ρ = some ((), z_hp (y_m0 τ lv) v (y_sc τ)) := by
  rw [y_plainly hlv (by rw [h2 _ _ (by omega)]; exact h18)]
  refine congrArg (fun z => some ((), z)) (x_ext (fun a b => ?_) h3)
  have e18 : ρ.1 18 lv = τ.1 18 lv := h2 _ _ (by omega)
  simp only [z_hp, y_hp, y_sc, y_m0]
  by_cases h : a = 0 ∧ (b = 50 ∨ b = 51 ∨ b = 52)
  · obtain ⟨rfl, h⟩ := h
    rcases h with rfl | rfl | rfl
    · rw [y_set_50]; simp [y_set_50, e18]
    · rw [y_set_51]; simp [y_set_51]
    · rw [y_set_52]; simp [y_set_52]
  · have ho : a ≠ 0 ∨ (b ≠ 50 ∧ b ≠ 51 ∧ b ≠ 52) := by omega
    rw [y_set_o _ _ _ _ ho, y_set_o _ _ _ _ ho]
    by_cases h32 : a = 32
    · rw [if_pos h32]
      by_cases hb : b < 60
      · rw [if_pos hb, h32, h1 b hb]
      · rw [if_neg hb, h32, h2 32 b (by omega), y_set_o _ _ _ _ (Or.inl (by decide))]
    · rw [if_neg h32, h2 a b (by omega)]
      by_cases h29 : a = 29
      · subst h29; simp
      · by_cases h30 : a = 30
        · subst h30; simp
        · by_cases h33 : a = 33
          · subst h33; simp
          · by_cases h0 : a = 0 ∧ b = 47
            · obtain ⟨rfl, rfl⟩ := h0; simp
            · simp [h29, h30, h33, h0]
theorem y_begins {μ : x_Hp} {T : x_TT} {lv N : Nat} (hT : y_Tx μ T lv N) : F_X9_begins μ = some ((), z_hp (y_m0 μ lv) (m_beg T) (y_sc μ)) := by
  obtain ⟨hlv, hN, h18, h7, h10, h6, hf, hfd, hsd, h9, -⟩ := id hT
  obtain ⟨n, e⟩ := y_fill0 (F := fun n i μ => F_X9_begins_2 n i μ) (r := 32) (b := 0) (L := 60) (by decide) (f := fun _ => 0) (P := fun _ ν => True) (fun i σ hi hp => trivial) (fun n i σ hi hp => by
    rw [F_X9_begins_2, if_neg (show ¬ (60 : Int32) ≤ nI i from nI_ge (b := 60) hi (by decide)), x_gd_t (x_inb_nI hi (by decide)), x_pt_s, x_ix_nI (by omega), nI_1, Nat.zero_add]) (σ := μ) trivial
  have r18 : (y_fl μ 32 0 60 (fun _ => 0) 0).1 0 18 = nI lv := by rw [y_fl_o _ _ _ _ _ (by omega)]; exact h18
  obtain ⟨n2, e2⟩ := y_fill0 (F := fun n i μ => F_X9_begins_23 n i μ) (r := 32) (b := 0) (L := 4) (by decide) (f := fun k => T.1 1 k) (P := fun _ ν => ν.1 0 18 = nI lv ∧ ∀ k, k < 4 → ν.1 9 (4 * lv + k) = T.1 1 k) (fun i σ hi hp => ⟨by rw [x_pI_1, if_neg (by omega)]; exact hp.1, fun k hk => by rw [x_pI_1, if_neg (by omega)]; exact hp.2 k hk⟩) (fun n i σ hi hp => by
    have ix : (4 : Int32) * nI lv + nI i = nI (4 * lv + i) := by rw [show (4 : Int32) * nI lv = nI (4 * lv) from pk_mul 4 _, nI_add]
    rw [F_X9_begins_23, if_neg (show ¬ (4 : Int32) ≤ nI i from nI_ge (b := 4) hi (by decide)), hp.1, ix, x_gd_t (x_inb_nI (by omega) (by decide)), x_gd_t (x_inb_nI (by omega) (by decide)), x_pt_s, x_ix_nI (by omega), x_ix_nI (by omega), hp.2 i hi, nI_1, Nat.zero_add]) (σ := y_fl μ 32 0 60 (fun _ => 0) 0) ⟨r18, fun k hk => by rw [y_fl_o _ _ _ _ _ (by omega)]; exact h9 k hk⟩
  have ro : ∀ a b, a ≠ 32 ∨ 60 ≤ b → (y_fl (y_fl μ 32 0 60 (fun _ => 0) 0) 32 0 4 (fun k => T.1 1 k) 0).1 a b = μ.1 a b := fun a b h => by
    rw [y_fl_o _ _ _ _ _ (by omega), y_fl_o _ _ _ _ _ (by omega)]
  have r32 : ∀ k, k < 60 → (y_fl (y_fl μ 32 0 60 (fun _ => 0) 0) 32 0 4 (fun k => T.1 1 k) 0).1 32 k = if k < 4 then T.1 1 k else 0 := fun k hk => by
    by_cases q : k < 4
    · have := y_fl_in (y_fl μ 32 0 60 (fun _ => 0) 0) 32 0 4 (fun k => T.1 1 k) q
      rw [Nat.zero_add] at this
      rw [this, if_pos q]
    · have := y_fl_in μ 32 0 60 (fun _ => (0 : Int32)) hk
      rw [Nat.zero_add] at this
      rw [y_fl_o _ _ _ _ _ (by omega), this, if_neg q]
  rw [F_X9_begins, e, F_X9_begins_2, if_pos (show (60 : Int32) ≤ nI 60 by decide), e2, F_X9_begins_23, if_pos (show (4 : Int32) ≤ nI 4 by decide), ro 0 18 (by omega), h18, x_gd_t (x_inb_nI hlv (by decide)), x_ix_nI (by omega), ro 10 lv (by omega), h10]
  have snd : (y_fl (y_fl μ 32 0 60 (fun _ => 0) 0) 32 0 4 (fun k => T.1 1 k) 0).2 = μ.2 := rfl
  generalize y_fl (y_fl μ 32 0 60 (fun _ => 0) 0) 32 0 4 (fun k => T.1 1 k) 0 = ρ at ro r32 snd ⊢
  have key : ∀ (w hd : Int32), w = (if T.1 1 7 ≤ 0 then -2 else 0) → hd = (if T.1 1 7 ≤ 0 then 0 else 1) → F_X9_begins_118 hd 18 (x_pI (x_pI (x_pI ρ 32 4 w) 32 10 (-2)) 32 11 (-2)) = some ((), z_hp (y_m0 μ lv) (m_beg T) (y_sc μ)) := by
    intro w hd hw hh
    have pf : F_X9_plainly (x_pI (x_pI (x_pI (x_pI ρ 32 4 w) 32 10 (-2)) 32 11 (-2)) 32 18 hd) = some ((), z_hp (y_m0 μ lv) (m_beg T) (y_sc μ)) := by
      refine y_rowset hlv h18 (fun k hk => ?_) (fun a b h => ?_) snd
      · have b9 : m_beg T 9 = w := by rw [m_beg, (m_give_9 T _ _).1, hw]
        have b19 : m_beg T 19 = hd := by
          rw [m_beg, hh]
          by_cases q : T.1 1 7 ≤ 0
          · rw [if_pos q, if_pos q, m_give, if_pos (by decide)]; rfl
          · have g19 : m_gv T (m_beg0 T) 0 19 = 0 := rfl
            rw [if_neg q, if_neg q, m_give, if_neg (by decide), x_ub, g19]; decide
        have b4' : ∀ a, m_give T (m_beg0 T) a 4 = 0 := fun a => by
          rw [m_give]
          split
          · rfl
          · rw [x_un _ _ (by decide)]; rfl
        have b4 : m_beg T 4 = 0 := b4' _
        have bz : ∀ j, j ≠ 9 ∧ j ≠ 4 ∧ j ≠ 5 ∧ j ≠ 6 ∧ j ≠ 7 ∧ j ≠ 19 → (4 ≤ j ∧ j ≠ 16 ∧ j ≠ 10 ∧ j ≠ 11) → m_beg T j = 0 := fun j p1 p2 => by rw [m_beg_k p1, m_beg0_0 p2]
        have az : ∀ q, q < 7 → m_all (m_beg T) (nI q) = 0 := fun q hq => by
          rw [m_all_nI _ hq, bz (20 + q) (by omega) (by omega), bz (27 + q) (by omega) (by omega), bz (34 + q) (by omega) (by omega), bz (41 + q) (by omega) (by omega), bz (48 + q) (by omega) (by omega), bz (55 + q) (by omega) (by omega)]; rfl
        have a1 : m_all (m_beg T) 1 = 0 := az 1 (by decide)
        have a2 : m_all (m_beg T) 2 = 0 := az 2 (by decide)
        have a4 : m_all (m_beg T) 4 = 0 := az 4 (by decide)
        have bk : ∀ j, j < 4 → m_beg T j = T.1 1 j := fun j hj => by rw [m_beg_k (by omega), m_beg0, if_pos hj]
        have b10 : m_beg T 10 = -2 := by rw [m_beg_k (by decide)]; rfl
        have b11 : m_beg T 11 = -2 := by rw [m_beg_k (by decide)]; rfl
        have row : (x_pI (x_pI (x_pI (x_pI ρ 32 4 w) 32 10 (-2)) 32 11 (-2)) 32 18 hd).1 32 k = if k = 18 then hd else if k = 11 then -2 else if k = 10 then -2 else if k = 4 then w else if k < 4 then T.1 1 k else 0 := by
          rw [x_pI_1, x_pI_1, x_pI_1, x_pI_1, r32 k hk]
          simp
        rw [row, y_rv]
        by_cases h20 : k < 20
        · rw [if_pos h20, y_lo, bk 0 (by decide), bk 1 (by decide), bk 2 (by decide), bk 3 (by decide), b9, b4, bz 12 (by decide) (by decide), bz 13 (by decide) (by decide), bz 14 (by decide) (by decide), bz 8 (by decide) (by decide), b10, b11, bz 15 (by decide) (by decide), a1, a2, a4, bz 17 (by decide) (by decide), bz 18 (by decide) (by decide), b19]
          have hc : k = 0 ∨ k = 1 ∨ k = 2 ∨ k = 3 ∨ k = 4 ∨ k = 5 ∨ k = 6 ∨ k = 7 ∨ k = 8 ∨ k = 9 ∨ k = 10 ∨ k = 11 ∨ k = 12 ∨ k = 13 ∨ k = 14 ∨ k = 15 ∨ k = 16 ∨ k = 17 ∨ k = 18 ∨ k = 19 := by omega
          rcases hc with rfl | rfl | rfl | rfl | rfl | rfl | rfl | rfl | rfl | rfl | rfl | rfl | rfl | rfl | rfl | rfl | rfl | rfl | rfl | rfl <;> rfl
        · rw [if_neg h20, if_neg (by omega), if_neg (by omega), if_neg (by omega), if_neg (by omega), if_neg (by omega)]
          split
          · have hy : y_col ((k - 20) / 6) ≤ 6 := by rw [y_col]; split <;> omega
            rw [bz _ (by omega) (by omega)]
          · rfl
      · rw [x_pI_1, if_neg (by omega), x_pI_1, if_neg (by omega), x_pI_1, if_neg (by omega), x_pI_1, if_neg (by omega), ro a b h]
    rw [F_X9_begins_118, x_gd_t (by decide), x_pt_s, show x_ix (18 : Int32) = 18 by decide, pf, x_b_s]
  have r76 : ∀ (w : Int32), w = (if T.1 1 7 ≤ 0 then -2 else 0) → F_X9_begins_76 w 4 ρ = some ((), z_hp (y_m0 μ lv) (m_beg T) (y_sc μ)) := by
    intro w hw
    have q18 : (x_pI (x_pI (x_pI ρ 32 4 w) 32 10 (-2)) 32 11 (-2)).1 0 18 = nI lv := by rw [x_pI_1, if_neg (by omega), x_pI_1, if_neg (by omega), x_pI_1, if_neg (by omega), ro _ _ (by omega)]; exact h18
    have q10 : (x_pI (x_pI (x_pI ρ 32 4 w) 32 10 (-2)) 32 11 (-2)).1 10 lv = nI N := by rw [x_pI_1, if_neg (by omega), x_pI_1, if_neg (by omega), x_pI_1, if_neg (by omega), ro _ _ (by omega)]; exact h10
    rw [F_X9_begins_76, x_gd_t (by decide), x_pt_s, show x_ix (4 : Int32) = 4 by decide, x_pt_s, x_pt_s, q18, x_gd_t (x_inb_nI hlv (by decide)), x_ix_nI (by omega), q10]
    by_cases q : nI N ≤ 0
    · rw [if_pos q]; exact key w 0 hw (by rw [h7, if_pos q])
    · rw [if_neg q]; exact key w 1 hw (by rw [h7, if_neg q])
  by_cases q : nI N ≤ 0
  · rw [if_pos q]; exact r76 (-2) (by rw [h7, if_pos q])
  · rw [if_neg q]; exact r76 0 (by rw [h7, if_neg q])
section FE
variable {T : x_TT} {lv N t : Nat} {v : x_V}
/-- what is told does not go with what it cries from u on -/
def m_mis (T : x_TT) (u : x_V) (σ : x_Hp) (k i : Nat) : Prop := ∃ j, j < k ∧ σ.1 169 j = nI i ∧ σ.1 170 j ≠ m_goes T (i + 1) u 12
theorem m_goes_s (T : x_TT) : ∀ (i : Nat) (u : x_V), m_goes T (i + 1) u = m_step T (m_goes T i u) := by
  intro i
  induction i with
  | zero => intro u; rfl
  | succ i ih => intro u; rw [m_goes, ih]; rfl
theorem c_told {σ : x_Hp} {k i : Nat} (hk : k ≤ 20) {w : x_V} {c : x_Sc} (K : Int32 → Int32 → x_Hp → Option (Int32 × x_Hp)) : ∀ (d f j : Nat), j + d = k → d < f → ((∃ j', j ≤ j' ∧ j' < k ∧ σ.1 169 j' = nI i ∧ σ.1 170 j' ≠ w 12) → F_X8_criesAsTold_41 K f (nI k) (nI i) (nI j) (x_hp σ 37 w c) = some (0, x_hp σ 37 w c)) ∧ ((¬ ∃ j', j ≤ j' ∧ j' < k ∧ σ.1 169 j' = nI i ∧ σ.1 170 j' ≠ w 12) → F_X8_criesAsTold_41 K f (nI k) (nI i) (nI j) (x_hp σ 37 w c) = K (nI k) (nI (i + 1)) (x_hp σ 37 w c)) := by
  intro d
  induction d with
  | zero =>
    intro f j h1 h2
    obtain ⟨f, rfl⟩ : ∃ m, f = m + 1 := ⟨f - 1, by omega⟩
    refine ⟨fun ⟨j', a, b, _⟩ => by omega, fun _ => ?_⟩
    rw [F_X8_criesAsTold_41, if_pos (nI_le (by omega) (by omega)), nI_1]
  | succ d ih =>
    intro f j h1 h2
    obtain ⟨f, rfl⟩ : ∃ m, f = m + 1 := ⟨f - 1, by omega⟩
    have r169 : x_aT (x_hp σ 37 w c) 169 (nI j) = σ.1 169 j := by rw [x_aT_nI _ _ (by rw [lnX_169]; omega), x_hp_oth _ _ _ _ _ (by decide) (by decide) (by decide) (by decide)]
    have r170 : x_aT (x_hp σ 37 w c) 170 (nI j) = σ.1 170 j := by rw [x_aT_nI _ _ (by rw [lnX_170]; omega), x_hp_oth _ _ _ _ _ (by decide) (by decide) (by decide) (by decide)]
    obtain ⟨i1, i2⟩ := ih f (j + 1) (by omega) (by omega)
    rw [F_X8_criesAsTold_41, if_neg (nI_ge (by omega) (by omega)), e_at, x_b_s, r169, e_at, x_b_s, r170, x_hp_get _ _ _ _ (by decide), F_X8_criesAsTold_81, nI_1]
    by_cases q1 : σ.1 169 j = nI i
    · rw [if_pos q1]
      by_cases q2 : σ.1 170 j = w 12
      · rw [if_pos q2]
        refine ⟨fun ⟨j', a, b, p, z⟩ => i1 ⟨j', ?_, b, p, z⟩, fun hn => i2 (fun ⟨j', a, b, p, z⟩ => hn ⟨j', by omega, b, p, z⟩)⟩
        have : j' ≠ j := fun e => by rw [e] at z; exact z q2
        omega
      · rw [if_neg q2]
        exact ⟨fun _ => rfl, fun hn => absurd ⟨j, Nat.le_refl _, by omega, q1, q2⟩ hn⟩
    · rw [if_neg q1]
      refine ⟨fun ⟨j', a, b, p, z⟩ => i1 ⟨j', ?_, b, p, z⟩, fun hn => i2 (fun ⟨j', a, b, p, z⟩ => hn ⟨j', by omega, b, p, z⟩)⟩
      have : j' ≠ j := fun e => by rw [e] at p; exact q1 p
      omega
theorem c_so {σ : x_Hp} (hT : x_Tx σ T) {k : Nat} (hk : k ≤ 20) (u : x_V) : ∀ (d f i : Nat) (c : x_Sc), i + d = 60 → d < f → ∃ (c2 : Nat × x_Sc) (w : Int32), F_X8_criesAsTold_21 f (nI k) (nI i) (x_hp σ 37 (m_goes T i u) c) = some (w, x_hp σ 37 (m_goes T c2.1 u) c2.2) ∧ ((∃ i', i ≤ i' ∧ i' < 60 ∧ m_mis T u σ k i') → w = 0) ∧ ((¬ ∃ i', i ≤ i' ∧ i' < 60 ∧ m_mis T u σ k i') → w = 1) := by
  intro d
  induction d with
  | zero =>
    intro f i c h1 h2
    obtain ⟨f, rfl⟩ : ∃ m, f = m + 1 := ⟨f - 1, by omega⟩
    have : i = 60 := by omega
    subst this
    refine ⟨(60, c), 1, ?_, fun ⟨i', a, b, _⟩ => by omega, fun _ => rfl⟩
    rw [F_X8_criesAsTold_21, if_pos (show (60 : Int32) ≤ nI 60 by decide)]
  | succ d ih =>
    intro f i c h1 h2
    obtain ⟨f, rfl⟩ : ∃ m, f = m + 1 := ⟨f - 1, by omega⟩
    obtain ⟨c2, g⟩ := e_step x_St37 hT (m_goes T i u) c
    rw [← m_goes_s] at g
    obtain ⟨t1, t2⟩ := c_told (σ := σ) (k := k) (i := i) hk (w := m_goes T (i + 1) u) (c := c2) (F_X8_criesAsTold_21 f) k x_fuel 0 (by omega) (by rw [x_fuel]; omega)
    rw [F_X8_criesAsTold_21, if_neg (show ¬ (60 : Int32) ≤ nI i from nI_ge (b := 60) (by omega) (by decide)), g, x_b_s]
    rw [show nI 0 = (0 : Int32) from rfl] at t1 t2
    by_cases q : m_mis T u σ k i
    · obtain ⟨j, a, b, e⟩ := q
      rw [t1 ⟨j, by omega, a, b, e⟩]
      exact ⟨(i + 1, c2), 0, rfl, fun _ => rfl, fun hn => absurd ⟨i, Nat.le_refl _, by omega, j, a, b, e⟩ hn⟩
    · rw [t2 (fun ⟨j, _, a, b, e⟩ => q ⟨j, a, b, e⟩)]
      obtain ⟨c3, w, g1, g2, g3⟩ := ih f (i + 1) c2 (by omega) (by omega)
      refine ⟨c3, w, g1, fun ⟨i', a, b, e⟩ => g2 ⟨i', ?_, b, e⟩, fun hn => g3 (fun ⟨i', a, b, e⟩ => hn ⟨i', by omega, b, e⟩)⟩
      have : i' ≠ i := fun z => by rw [z] at e; exact q e
      omega
/-- the reference: up to the last minute that is told -/
theorem y_told {μ : x_Hp} {k i n1 : Nat} (hk : k ≤ 20) {w : x_V} {e : y_Sc} (x3 : Int32) (K : Int32 → Int32 → Int32 → x_Hp → Option (Int32 × x_Hp)) : ∀ (d f j : Nat), j + d = k → d < f → ((∃ j', j ≤ j' ∧ j' < k ∧ μ.1 41 j' = nI i ∧ μ.1 42 j' ≠ w 12) → F_X9_isSo_63 K f (nI k) x3 (nI i) (nI j) (z_hp μ w e) = some (0, z_hp μ w e)) ∧ ((¬ ∃ j', j ≤ j' ∧ j' < k ∧ μ.1 41 j' = nI i ∧ μ.1 42 j' ≠ w 12) → F_X9_isSo_63 K f (nI k) x3 (nI i) (nI j) (z_hp μ w e) = K (nI k) x3 (nI (i + 1)) (z_hp μ w e)) := by
  intro d
  induction d with
  | zero =>
    intro f j h1 h2
    obtain ⟨f, rfl⟩ : ∃ m, f = m + 1 := ⟨f - 1, by omega⟩
    refine ⟨fun ⟨j', a, b, _⟩ => by omega, fun _ => ?_⟩
    rw [F_X9_isSo_63, if_pos (nI_le (by omega) (by omega)), nI_1]
  | succ d ih =>
    intro f j h1 h2
    obtain ⟨f, rfl⟩ : ∃ m, f = m + 1 := ⟨f - 1, by omega⟩
    have r41 : (z_hp μ w e).1 41 j = μ.1 41 j := z_oth _ _ _ _ (by decide) (by decide) (by decide) (by decide) (Or.inl (by decide))
    have r42 : (z_hp μ w e).1 42 j = μ.1 42 j := z_oth _ _ _ _ (by decide) (by decide) (by decide) (by decide) (Or.inl (by decide))
    obtain ⟨i1, i2⟩ := ih f (j + 1) (by omega) (by omega)
    have hi : x_inb (nI j) 20 = true := x_inb_nI (by omega) (by decide)
    rw [F_X9_isSo_63, if_neg (nI_ge (by omega) (by omega)), x_gd_t hi, x_gd_t hi, x_ix_nI (by omega), r41, r42, z_get _ _ _ 12 (k := 6) rfl (by decide) (by decide), F_X9_isSo_100, nI_1]
    by_cases q1 : μ.1 41 j = nI i
    · rw [if_pos q1]
      by_cases q2 : w 12 = μ.1 42 j
      · rw [if_pos q2]
        refine ⟨fun ⟨j', a, b, p, z⟩ => i1 ⟨j', ?_, b, p, z⟩, fun hn => i2 (fun ⟨j', a, b, p, z⟩ => hn ⟨j', by omega, b, p, z⟩)⟩
        have : j' ≠ j := fun e => by rw [e] at z; exact z q2.symm
        omega
      · rw [if_neg q2]
        exact ⟨fun _ => rfl, fun hn => absurd ⟨j, Nat.le_refl _, by omega, q1, fun z => q2 z.symm⟩ hn⟩
    · rw [if_neg q1]
      refine ⟨fun ⟨j', a, b, p, z⟩ => i1 ⟨j', ?_, b, p, z⟩, fun hn => i2 (fun ⟨j', a, b, p, z⟩ => hn ⟨j', by omega, b, p, z⟩)⟩
      have : j' ≠ j := fun e => by rw [e] at p; exact q1 p
      omega
theorem y_so {μ : x_Hp} (hT : y_Tx μ T lv N) {k : Nat} (hk : k ≤ 20) {u : x_V} (hH : y_H μ T N u) {n1 : Nat} (hn1 : n1 ≤ 60) : ∀ (d f i : Nat) (e : y_Sc), i + d = n1 → d < f → ∃ (e2 : Nat × y_Sc) (w : Int32), F_X9_isSo_50 f (nI k) (nI n1 - 1) (nI i) (z_hp μ (m_goes T i u) e) = some (w, z_hp μ (m_goes T e2.1 u) e2.2) ∧ ((∃ i', i ≤ i' ∧ i' < n1 ∧ ∃ j, j < k ∧ μ.1 41 j = nI i' ∧ μ.1 42 j ≠ m_goes T (i' + 1) u 12) → w = 0) ∧ ((¬ ∃ i', i ≤ i' ∧ i' < n1 ∧ ∃ j, j < k ∧ μ.1 41 j = nI i' ∧ μ.1 42 j ≠ m_goes T (i' + 1) u 12) → w = 1) := by
  have lt : ∀ i, i < 2 ^ 30 → (nI n1 - 1 < nI i ↔ n1 ≤ i) := by
    intro i hi
    rcases Nat.eq_zero_or_pos n1 with z | z
    · subst z
      refine ⟨fun _ => by omega, fun _ => ?_⟩
      rw [Int32.lt_iff_toInt_lt, nI_toInt (by omega), show (nI 0 - 1).toInt = -1 by decide]; omega
    · rw [show (1 : Int32) = nI 1 from rfl, pk_sub z, nI_ltI (by omega) (by omega)]; omega
  intro d
  induction d with
  | zero =>
    intro f i e h1 h2
    obtain ⟨f, rfl⟩ : ∃ m, f = m + 1 := ⟨f - 1, by omega⟩
    refine ⟨(i, e), 1, ?_, fun ⟨i', a, b, _⟩ => by omega, fun _ => rfl⟩
    rw [F_X9_isSo_50, if_pos ((lt i (by omega)).mpr (by omega))]
  | succ d ih =>
    intro f i e h1 h2
    obtain ⟨f, rfl⟩ : ∃ m, f = m + 1 := ⟨f - 1, by omega⟩
    obtain ⟨e2, g⟩ := y_stepH hT (hH.goes hT i) e
    rw [← m_goes_s] at g
    obtain ⟨t1, t2⟩ := y_told (μ := μ) (k := k) (i := i) (n1 := n1) hk (w := m_goes T (i + 1) u) (e := e2) (nI n1 - 1) (F_X9_isSo_50 f) k x_fuel 0 (by omega) (by rw [x_fuel]; omega)
    rw [F_X9_isSo_50, if_neg (by rw [lt i (by omega)]; omega), g, x_b_s]
    rw [show nI 0 = (0 : Int32) from rfl] at t1 t2
    by_cases q : ∃ j, j < k ∧ μ.1 41 j = nI i ∧ μ.1 42 j ≠ m_goes T (i + 1) u 12
    · obtain ⟨j, a, b, z⟩ := q
      rw [t1 ⟨j, by omega, a, b, z⟩]
      exact ⟨(i + 1, e2), 0, rfl, fun _ => rfl, fun hn => absurd ⟨i, Nat.le_refl _, by omega, j, a, b, z⟩ hn⟩
    · rw [t2 (fun ⟨j, _, a, b, z⟩ => q ⟨j, a, b, z⟩)]
      obtain ⟨c3, w, g1, g2, g3⟩ := ih f (i + 1) e2 (by omega) (by omega)
      refine ⟨c3, w, g1, fun ⟨i', a, b, z⟩ => g2 ⟨i', ?_, b, z⟩, fun hn => g3 (fun ⟨i', a, b, z⟩ => hn ⟨i', by omega, b, z⟩)⟩
      have : i' ≠ i := fun y => by rw [y] at z; exact q z
      omega
theorem y_last {μ : x_Hp} {k : Nat} (hk : k ≤ 20) (hm : ∀ j, j < k → ∃ mi, mi < 60 ∧ μ.1 41 j = nI mi) : ∀ (d f j n1 : Nat), j + d = k → d < f → n1 ≤ 60 → (∀ j', j' < j → ∀ mi, mi < 60 → μ.1 41 j' = nI mi → mi < n1) → ∃ n2, n2 ≤ 60 ∧ (∀ j', j' < k → ∀ mi, mi < 60 → μ.1 41 j' = nI mi → mi < n2) ∧ F_X9_isSo_16 f (nI k) (nI n1 - 1) (nI j) μ = F_X9_isSo_50 x_fuel (nI k) (nI n2 - 1) 0 μ := by
  intro d
  induction d with
  | zero =>
    intro f j n1 h1 h2 h3 h4
    obtain ⟨f, rfl⟩ : ∃ m, f = m + 1 := ⟨f - 1, by omega⟩
    have : j = k := by omega
    subst this
    exact ⟨n1, h3, h4, by rw [F_X9_isSo_16, if_pos (nI_le (Nat.le_refl _) (by omega))]⟩
  | succ d ih =>
    intro f j n1 h1 h2 h3 h4
    obtain ⟨f, rfl⟩ : ∃ m, f = m + 1 := ⟨f - 1, by omega⟩
    obtain ⟨mi, hmi, emi⟩ := hm j (by omega)
    have hi : x_inb (nI j) 20 = true := x_inb_nI (by omega) (by decide)
    have le : (nI mi ≤ nI n1 - 1) ↔ mi < n1 := by
      rcases Nat.eq_zero_or_pos n1 with z | z
      · subst z
        refine ⟨fun h => ?_, fun h => by omega⟩
        rw [Int32.le_iff_toInt_le, nI_toInt (by omega), show (nI 0 - 1).toInt = -1 by decide] at h; omega
      · rw [show (1 : Int32) = nI 1 from rfl, pk_sub z, nI_leI (by omega) (by omega)]; omega
    rw [F_X9_isSo_16, if_neg (nI_ge (by omega) (by omega)), x_gd_t hi, x_gd_t hi, x_ix_nI (by omega), emi, F_X9_isSo_41, F_X9_isSo_41, nI_1]
    have up : ∀ n', (∀ j', j' < j → ∀ mi', mi' < 60 → μ.1 41 j' = nI mi' → mi' < n') → mi < n' → (∀ j', j' < j + 1 → ∀ mi', mi' < 60 → μ.1 41 j' = nI mi' → mi' < n') := by
      intro n' a b j' c mi' p1 p2
      by_cases z : j' = j
      · rw [z, emi] at p2
        have := (nI_eq (by omega) (by omega)).mp p2
        omega
      · exact a j' (by omega) mi' p1 p2
    by_cases q : mi < n1
    · rw [if_pos (le.mpr q)]
      exact ih f (j + 1) n1 (by omega) (by omega) h3 (up n1 h4 q)
    · rw [if_neg (fun z => q (le.mp z)), show nI mi = nI (mi + 1) - 1 from (nI_pred mi).symm]
      exact ih f (j + 1) (mi + 1) (by omega) (by omega) (by omega) (up (mi + 1) (fun j' a mi' b c => by have := h4 j' a mi' b c; omega) (by omega))
theorem q_isSo {σ μ : x_Hp} (hV : r_V σ μ T lv N t v) {n : Nat} (hn : n ≤ 20) (ht : ∀ j, j < n → (∃ mi, mi < 60 ∧ σ.1 169 j = nI mi ∧ μ.1 41 j = nI mi) ∧ σ.1 170 j = μ.1 42 j) {k hu : Nat} (hk : k ≤ n) (hhu : hu < 2 ^ 31) : q_S σ μ (F_X8_criesAsTold (nI hu) (nI k) σ) (F_X9_isSo (nI hu) (nI k) μ) := by
  obtain ⟨n1, n6, n7⟩ := hV.n
  have eb := e_begin x_St37 hV.1 (x_gS σ 37) (x_sc σ)
  rw [← x_hp_of σ x_St37] at eb
  have hJ : m_J T N 0 (x_u (m_beg T) 0 (nI hu)) := (m_J.beg n7 n6 hV.2.2.1).u (by omega) _
  rw [F_X8_criesAsTold, eb, x_b_s, x_pt_s, x_hp_put _ _ _ _ (by decide), F_X9_isSo, y_begins hV.2.1, x_b_s, x_pt_s, z_put _ _ _ 0 (k := 0) rfl (by decide) (by decide)]
  have z41 : ∀ (a : Nat), (a = 41 ∨ a = 42) → ∀ (u : x_V) (e : y_Sc) j, (z_hp (y_m0 μ lv) u e).1 a j = μ.1 a j := fun a ha u e j => ((y_m0.sm μ lv).tr (y_sm.hp _ _ _)) a j (by unfold y_Sb; omega)
  obtain ⟨n2, hn2, hb2, e2⟩ := y_last (μ := z_hp (y_m0 μ lv) (x_u (m_beg T) 0 (nI hu)) (y_sc μ)) (k := k) (by omega) (fun j hj => by
    obtain ⟨⟨mi, a, -, b⟩, -⟩ := ht j (by omega)
    exact ⟨mi, a, by rw [z41 41 (by omega)]; exact b⟩) k x_fuel 0 0 (by omega) (by rw [x_fuel]; omega) (by omega) (fun j' h => by omega)
  have e2' : F_X9_isSo_16 x_fuel (nI k) (-1) 0 (z_hp (y_m0 μ lv) (x_u (m_beg T) 0 (nI hu)) (y_sc μ)) = F_X9_isSo_50 x_fuel (nI k) (nI n2 - 1) 0 (z_hp (y_m0 μ lv) (x_u (m_beg T) 0 (nI hu)) (y_sc μ)) := e2
  rw [e2']
  obtain ⟨c2, w, g1, g2, g3⟩ := c_so (T := T) (σ := σ) hV.1 (k := k) (by omega) (x_u (m_beg T) 0 (nI hu)) 60 x_fuel 0 (x_sc σ) (by omega) (by decide)
  obtain ⟨d2, w', f1, f2, f3⟩ := y_so (T := T) (lv := lv) (N := N) (μ := y_m0 μ lv) hV.t0 (k := k) (by omega) (u := x_u (m_beg T) 0 (nI hu)) (J_H hV.2.1 hJ) hn2 n2 x_fuel 0 (y_sc μ) (by omega) (by rw [x_fuel]; omega)
  have g1' : F_X8_criesAsTold_21 x_fuel (nI k) 0 (x_hp σ 37 (x_u (m_beg T) 0 (nI hu)) (x_sc σ)) = _ := g1
  have f1' : F_X9_isSo_50 x_fuel (nI k) (nI n2 - 1) 0 (z_hp (y_m0 μ lv) (x_u (m_beg T) 0 (nI hu)) (y_sc μ)) = _ := f1
  rw [g1', f1']
  have m0 : ∀ a j, (a = 41 ∨ a = 42) → (y_m0 μ lv).1 a j = μ.1 a j := fun a j ha => y_set_o _ _ _ _ (by omega)
  have eqv : (∃ i', 0 ≤ i' ∧ i' < 60 ∧ m_mis T (x_u (m_beg T) 0 (nI hu)) σ k i') ↔ (∃ i', 0 ≤ i' ∧ i' < n2 ∧ ∃ j, j < k ∧ (y_m0 μ lv).1 41 j = nI i' ∧ (y_m0 μ lv).1 42 j ≠ m_goes T (i' + 1) (x_u (m_beg T) 0 (nI hu)) 12) := by
    constructor
    · rintro ⟨i', a, b, j, hj, p, q⟩
      obtain ⟨⟨mi, x1, x2, x3⟩, x4⟩ := ht j (by omega)
      have em : mi = i' := (nI_eq (by omega) (by omega)).mp (x2.symm.trans p)
      subst em
      refine ⟨mi, a, hb2 j hj mi x1 (by rw [z41 41 (by omega)]; exact x3), j, hj, by rw [m0 _ _ (by omega)]; exact x3, by rw [m0 _ _ (by omega), ← x4]; exact q⟩
    · rintro ⟨i', a, b, j, hj, p, q⟩
      rw [m0 _ _ (by omega)] at p q
      obtain ⟨⟨mi, x1, x2, x3⟩, x4⟩ := ht j (by omega)
      have em : mi = i' := (nI_eq (by omega) (by omega)).mp (x3.symm.trans p)
      subst em
      exact ⟨mi, a, x1, j, hj, x2, by rw [x4]; exact q⟩
  have ew : w = w' := by
    by_cases q : ∃ i', 0 ≤ i' ∧ i' < 60 ∧ m_mis T (x_u (m_beg T) 0 (nI hu)) σ k i'
    · rw [g2 q, f2 (eqv.mp q)]
    · rw [g3 q, f3 (fun z => q (eqv.mpr z))]
  rw [ew]
  exact q_S.d _ (x_sm.hp _ _ _) ((y_m0.sm μ lv).tr (y_sm.hp _ _ _))
theorem q_fed_loop {n k : Nat} (hn : n ≤ 20) (hk : k ≤ n) (x2 : Int32) : ∀ (d f f' i : Nat) (z : Int32) (σ μ : x_Hp), r_V σ μ T lv N t v → (∀ j, j < n → (∃ mi, mi < 60 ∧ σ.1 169 j = nI mi ∧ μ.1 41 j = nI mi) ∧ σ.1 170 j = μ.1 42 j) → i + d = 100 → d < f → d < f' → q_S σ μ (F_X8_fed_24 f (nI k) x2 z (nI i) σ) (F_X9_fed_24 f' (nI k) x2 z (nI i) μ) := by
  intro d
  induction d with
  | zero =>
    intro f f' i z σ μ hV ht h1 h2 h3
    obtain ⟨f, rfl⟩ : ∃ m, f = m + 1 := ⟨f - 1, by omega⟩
    obtain ⟨f', rfl⟩ : ∃ m, f' = m + 1 := ⟨f' - 1, by omega⟩
    have : i = 100 := by omega
    subst this
    rw [F_X8_fed_24, F_X9_fed_24, if_pos (show (99 : Int32) < nI 100 by decide), if_pos (show (100 : Int32) ≤ nI 100 by decide)]
    split
    · exact q_S.c _ _ _
    · exact q_S.c _ _ _
  | succ d ih =>
    intro f f' i z σ μ hV ht h1 h2 h3
    obtain ⟨f, rfl⟩ : ∃ m, f = m + 1 := ⟨f - 1, by omega⟩
    obtain ⟨f', rfl⟩ : ∃ m, f' = m + 1 := ⟨f' - 1, by omega⟩
    obtain ⟨r, τ, ν, a, b, sx, sy⟩ := q_isSo hV hn ht hk (hu := i) (by omega)
    rw [F_X8_fed_24, F_X9_fed_24, if_neg (show ¬ (99 : Int32) < nI i from nI_nlt (a := 99) (by omega) (by decide)), if_neg (show ¬ (100 : Int32) ≤ nI i from nI_ge (b := 100) (by omega) (by decide)), a, b, x_b_s, x_b_s]
    have hV2 := hV.sm sx sy
    have ht2 : ∀ j, j < n → (∃ mi, mi < 60 ∧ τ.1 169 j = nI mi ∧ ν.1 41 j = nI mi) ∧ τ.1 170 j = ν.1 42 j := fun j hj => by
      rw [sx 169 j (by unfold x_Sb; omega), sx 170 j (by unfold x_Sb; omega), sy 41 j (by unfold y_Sb; omega), sy 42 j (by unfold y_Sb; omega)]
      exact ht j hj
    by_cases q : r = 0
    · rw [if_pos q, if_pos q, F_X8_fed_52, F_X9_fed_55, nI_1]
      exact q_S.tr sx sy (ih f f' (i + 1) z τ ν hV2 ht2 (by omega) (by omega) (by omega))
    · rw [if_neg q, if_neg q]
      by_cases q2 : z = x2
      · rw [if_pos q2, if_pos q2]; exact q_S.d _ sx sy
      · rw [if_neg q2, if_neg q2, F_X8_fed_52, F_X9_fed_55, nI_1]
        exact q_S.tr sx sy (ih f f' (i + 1) (z + 1) τ ν hV2 ht2 (by omega) (by omega) (by omega))
theorem q_fed {σ μ : x_Hp} (hV : r_V σ μ T lv N t v) (hT : r_T σ μ) (x1 x2 : Int32) : q_S σ μ (F_X8_fed x1 x2 σ) (F_X9_fed x1 x2 μ) := by
  obtain ⟨n, t1, t2, t3, t4⟩ := hT
  rw [F_X8_fed, F_X9_fed, t2, t3]
  refine q_gb x1 0 n rfl rfl (by omega) (by omega) ?_
  rintro k - k2 rfl
  by_cases q : (-1 : Int32) ≤ x2
  · rw [if_pos q, if_pos q]
    exact q_fed_loop t1 k2 x2 100 x_fuel x_fuel 0 0 σ μ hV t4 (by omega) (by decide) (by decide)
  · rw [if_neg q, if_neg q]; exact q_S.c _ _ _
end FE
