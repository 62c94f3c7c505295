/-! READING: the scan and the cut give the same tokens -/
/-- what the scan leaves as it was -/
def c_fr (σ τ : x_Hp) : Prop := (∀ a b, a ≠ 16 → a ≠ 18 → ¬ (a = 14 ∧ b = 5) → τ.1 a b = σ.1 a b) ∧ ∀ a b, a ≠ 17 → τ.2 a b = σ.2 a b
def y_fr (μ τ : x_Hp) : Prop := (∀ a b, a ≠ 3 → a ≠ 4 → a ≠ 5 → ¬ (a = 0 ∧ b = 10) → τ.1 a b = μ.1 a b) ∧ ∀ a b, a ≠ 6 → τ.2 a b = μ.2 a b
theorem c_fr.same (σ : x_Hp) : c_fr σ σ := ⟨fun _ _ _ _ _ => rfl, fun _ _ _ => rfl⟩
theorem y_fr.same (σ : x_Hp) : y_fr σ σ := ⟨fun _ _ _ _ _ _ => rfl, fun _ _ _ => rfl⟩
theorem c_fr.tr {σ τ ρ : x_Hp} (h : c_fr σ τ) (g : c_fr τ ρ) : c_fr σ ρ := ⟨fun a b p q r => (g.1 a b p q r).trans (h.1 a b p q r), fun a b p => (g.2 a b p).trans (h.2 a b p)⟩
theorem y_fr.tr {σ τ ρ : x_Hp} (h : y_fr σ τ) (g : y_fr τ ρ) : y_fr σ ρ := ⟨fun a b p q r s => (g.1 a b p q r s).trans (h.1 a b p q r s), fun a b p => (g.2 a b p).trans (h.2 a b p)⟩
theorem c_fr.rw (σ : x_Hp) (k kd : Nat) (w : Int64) (i : Nat) : c_fr σ (c_rw σ k kd w i) :=
  ⟨fun a b p q r => by rw [c_rw_1, if_neg r, if_neg (fun z => q z.1), if_neg (fun z => p z.1)], fun a b p => by rw [c_rw_2, if_neg (fun z => p z.1)]⟩
theorem y_fr.rw (μ : x_Hp) (k kd i : Nat) (v : Int32) (nm : Int64) : y_fr μ (y_rw μ k kd i v nm) :=
  ⟨fun a b p q r s => by rw [y_rw_1, if_neg s, if_neg (fun z => r z.1), if_neg (fun z => q z.1), if_neg (fun z => p z.1)], fun a b p => by rw [y_rw_2, if_neg (fun z => p z.1)]⟩
theorem t_tok.rwc {σ μ : x_Hp} {j k kd pl : Nat} (h : t_tok σ μ j kd pl) (hj : j ≠ k) (kd' : Nat) (w : Int64) (i : Nat) : t_tok (c_rw σ k kd' w i) μ j kd pl := by
  obtain ⟨h1, h2, h3, h4, h5, h6, h7, h8⟩ := h
  refine ⟨h1, h2, ?_, ?_, h5, h6, fun q => ?_, fun q => ?_⟩
  · rw [c_rw_1, if_neg (fun z => absurd z.1 (by decide)), if_neg (fun z => absurd z.1 (by decide)), if_neg (fun z => hj z.2)]; exact h3
  · rw [c_rw_1, if_neg (fun z => absurd z.1 (by decide)), if_neg (fun z => hj z.2), if_neg (fun z => absurd z.1 (by decide))]; exact h4
  · obtain ⟨wv, a, b, c⟩ := h7 q
    exact ⟨wv, a, by rw [c_rw_2, if_neg (fun z => hj z.2)]; exact b, c⟩
  · rw [c_rw_2, if_neg (fun z => hj z.2)]; exact h8 q
/-- k tokens, all before i -/
def t_sq (σ μ : x_Hp) (K P : Nat → Nat) (k i : Nat) : Prop := (∀ j, j < k → t_tok σ μ j (K j) (P j)) ∧ (∀ j, j < k → K j ≠ 32) ∧ (∀ j, j < k → P j < i) ∧ ∀ a b, a < b → b < k → P a < P b
theorem t_sq.mono {σ μ : x_Hp} {K P : Nat → Nat} {k i e : Nat} (h : t_sq σ μ K P k i) (hi : i ≤ e) : t_sq σ μ K P k e := ⟨h.1, h.2.1, fun j hj => Nat.lt_of_lt_of_le (h.2.2.1 j hj) hi, h.2.2.2⟩
theorem t_sq.add {σ μ : x_Hp} {K P : Nat → Nat} {k i e : Nat} (h : t_sq σ μ K P k i) (hi : i < e) (h2000 : i ≤ 2000) {kd : Nat} (h1 : n_kd kd) (h2 : kd ≠ 32) (w : Int64) (v : Int32) (nm : Int64) (h3 : kd = 31 → ∃ wv, wv ≤ 9999 ∧ w = lN wv ∧ v = nI wv) (h4 : kd = 30 → w = nm) : t_sq (c_rw σ k kd w i) (y_rw μ k (n_tk kd) i v nm) (fun j => if j = k then kd else K j) (fun j => if j = k then i else P j) (k + 1) e := by
  have old : ∀ j, j < k → j ≠ k := fun j hj => Nat.ne_of_lt hj
  refine ⟨fun j hj => ?_, fun j hj => ?_, fun j hj => ?_, fun a b ha hb => ?_⟩
  · by_cases q : j = k
    · subst q; simp only [if_pos]; exact t_tok.new h1 h2000 w v nm h3 h4
    · simp only [if_neg q]; exact (h.1 j (Nat.lt_of_le_of_ne (Nat.le_of_lt_succ hj) q)).rw q kd w i _ i v nm
  · by_cases q : j = k
    · simp only [if_pos q]; exact h2
    · simp only [if_neg q]; exact h.2.1 j (Nat.lt_of_le_of_ne (Nat.le_of_lt_succ hj) q)
  · by_cases q : j = k
    · simp only [if_pos q]; exact hi
    · simp only [if_neg q]; exact Nat.lt_trans (h.2.2.1 j (Nat.lt_of_le_of_ne (Nat.le_of_lt_succ hj) q)) hi
  · have qa : a ≠ k := Nat.ne_of_lt (Nat.lt_of_lt_of_le ha (Nat.le_of_lt_succ hb))
    by_cases q : b = k
    · simp only [if_neg qa, if_pos q]; exact h.2.2.1 a (q ▸ ha)
    · simp only [if_neg qa, if_neg q]; exact h.2.2.2 a b ha (Nat.lt_of_le_of_ne (Nat.le_of_lt_succ hb) q)
/-- all tokens: m of them, the end among them when they are not too many -/
def t_fin (σ μ : x_Hp) (K P : Nat → Nat) (m : Nat) : Prop := 0 < m ∧ m ≤ 401 ∧ (∀ j, j < m → t_tok σ μ j (K j) (P j)) ∧ (∀ j, j + 1 < m → K j ≠ 32) ∧ (∀ a b, a < b → b < m → P a < P b) ∧ (m < 401 → K (m - 1) = 32)
section T4
variable {n : Nat} {bt : Nat → Nat}
theorem c_scan63 {σ : x_Hp} {k : Nat} (h : σ.1 14 1 = nI n) (h1 : σ.1 14 5 = nI k) (hk : k ≤ 401) : F_X4_scan_63 σ = some ((), c_rw σ k 32 0 n) := by
  rw [F_X4_scan_63, h, show (32 : Int32) = nI 32 from rfl, c_addRow h1 (by omega), x_b_s]
/-- the class goes on over bytes of a token -/
theorem c_skip {σ μ : x_Hp} (h : t_tx σ μ n bt) {k : Nat} (h1 : σ.1 14 5 = nI k) (hk : k ≤ 400) {e : Nat} (he : e ≤ n) : ∀ (d f i : Nat), i + d = e → F_X4_scan_9 (f + d) (nI e) (nI i) σ = F_X4_scan_9 f (nI e) (nI e) σ
  | 0, f, i, q => by rw [Nat.add_zero, show i = e by omega]
  | d + 1, f, i, q => by
    have h2 := h.1
    rw [← Nat.add_assoc, F_X4_scan_9, h.2.1, if_neg (nI_ge (by omega) (by omega)), h1, if_neg (show ¬ (400 : Int32) < nI k from nI_nlt (a := 400) hk (by decide)), c_byte h (by omega), x_b_s, if_pos (nI_lt (by omega) (by omega)), F_X4_scan_57, nI_1]
    exact c_skip h h1 hk he d f (i + 1) (by omega)
theorem c_blank {c : Nat} (hc : c < 256) (σ : x_Hp) : (t_bl c → F_X4_isBlank (nI c) σ = some (1, σ)) ∧ (¬ t_bl c → F_X4_isBlank (nI c) σ = some (0, σ)) := by
  have e' : ∀ d, d < 256 → (nI c = nI d ↔ c = d) := fun d hd => nI_eq (by omega) (by omega)
  have x9 : nI c = 9 ↔ c = 9 := e' 9 (by decide)
  have x10 : nI c = 10 ↔ c = 10 := e' 10 (by decide)
  have x13 : nI c = 13 ↔ c = 13 := e' 13 (by decide)
  have x32 : nI c = 32 ↔ c = 32 := e' 32 (by decide)
  unfold t_bl
  rw [F_X4_isBlank]
  by_cases q1 : c = 9
  · rw [if_pos (x9.mpr q1)]; exact ⟨fun _ => rfl, fun z => absurd (Or.inl q1) z⟩
  rw [if_neg (fun z => q1 (x9.mp z))]
  by_cases q2 : c = 10
  · rw [if_pos (x10.mpr q2)]; exact ⟨fun _ => rfl, fun z => absurd (Or.inr (Or.inl q2)) z⟩
  rw [if_neg (fun z => q2 (x10.mp z))]
  by_cases q3 : c = 13
  · rw [if_pos (x13.mpr q3)]; exact ⟨fun _ => rfl, fun z => absurd (Or.inr (Or.inr (Or.inl q3))) z⟩
  rw [if_neg (fun z => q3 (x13.mp z))]
  by_cases q4 : c = 32
  · rw [if_pos (x32.mpr q4)]; exact ⟨fun _ => rfl, fun z => absurd (Or.inr (Or.inr (Or.inr q4))) z⟩
  rw [if_neg (fun z => q4 (x32.mp z))]
  exact ⟨fun z => absurd z (by omega), fun _ => rfl⟩
theorem y_blank {σ μ : x_Hp} (h : t_tx σ μ n bt) {k : Nat} (h2 : μ.1 0 10 = nI k) (hk : k ≤ 400) {i : Nat} (hi : i < n) (hb : t_bl (bt i)) (f : Nat) : F_X9_cut_7 (f + 1) (nI i) μ = F_X9_cut_7 f (nI (i + 1)) μ := by
  have h2000 := h.1
  have hbt := (h.2.2.2 i hi).1
  have e' : ∀ d, d < 256 → (nI (bt i) = nI d ↔ bt i = d) := fun d hd => nI_eq (by omega) (by omega)
  have x9 : nI (bt i) = 9 ↔ bt i = 9 := e' 9 (by decide)
  have x10 : nI (bt i) = 10 ↔ bt i = 10 := e' 10 (by decide)
  have x13 : nI (bt i) = 13 ↔ bt i = 13 := e' 13 (by decide)
  have x32 : nI (bt i) = 32 ↔ bt i = 32 := e' 32 (by decide)
  have g : F_X9_cut_67 (F_X9_cut_7 f) (nI i) μ = F_X9_cut_7 f (nI (i + 1)) μ := by rw [F_X9_cut_67, F_X9_cut_291, nI_1]
  unfold t_bl at hb
  rw [F_X9_cut_7, h2, if_neg (show ¬ (400 : Int32) < nI k from nI_nlt (a := 400) hk (by decide)), y_byte h hi, x_b_s, h.2.2.1, if_pos (nI_lt hi (by omega)), g]
  by_cases q1 : bt i = 9
  · rw [if_pos (x9.mpr q1)]
  rw [if_neg (fun z => q1 (x9.mp z))]
  by_cases q2 : bt i = 10
  · rw [if_pos (x10.mpr q2)]
  rw [if_neg (fun z => q2 (x10.mp z))]
  by_cases q3 : bt i = 13
  · rw [if_pos (x13.mpr q3)]
  rw [if_neg (fun z => q3 (x13.mp z))]
  rw [if_pos (x32.mpr (by omega))]
theorem y_keys.rw {μ : x_Hp} (h : y_keys μ) (k kd i : Nat) (v : Int32) (nm : Int64) : y_keys (y_rw μ k kd i v nm) := fun r hr => by rw [y_rw_2, if_neg (fun z => absurd z.1 (by decide))]; exact h r hr
theorem y_end0 {σ μ : x_Hp} (h : t_tx σ μ n bt) {k : Nat} (h2 : μ.1 0 10 = nI k) (hk : k ≤ 400) (f : Nat) : F_X9_cut_7 (f + 1) (nI n) μ = some ((), y_rw μ k 0 n 0 0) := by
  have h2000 := h.1
  rw [F_X9_cut_7, h2, if_neg (show ¬ (400 : Int32) < nI k from nI_nlt (a := 400) hk (by decide)), y_byte0 h (Nat.le_refl n) (by omega), x_b_s, h.2.2.1, if_neg (nI_nlt (Nat.le_refl n) (by omega)), show F_X9_token 0 (nI n) 0 0 μ = some ((), y_rw μ k 0 n 0 0) from y_token h2 (by omega) 0 n 0 0, x_b_s]
theorem t_scan : ∀ (d i k x1 f1 f2 : Nat) (σ μ : x_Hp) (K P : Nat → Nat), n - i = d → i ≤ n → k ≤ 401 → t_tx σ μ n bt → y_keys μ → σ.1 14 5 = nI k → μ.1 0 10 = nI k → t_sq σ μ K P k i → d < f1 → d < f2 → x1 ≤ i → ∃ σ' μ' K' P' m, F_X4_scan_9 f1 (nI x1) (nI i) σ = some ((), σ') ∧ F_X9_cut_7 f2 (nI i) μ = some ((), μ') ∧ c_fr σ σ' ∧ y_fr μ μ' ∧ t_fin σ' μ' K' P' m := by
  intro d
  induction d using Nat.strongRecOn with
  | ind d ih =>
  intro i k x1 f1 f2 σ μ K P hd hi hk h hy h1 h2 hs hf1 hf2 hx
  have h2000 := h.1
  obtain ⟨f1, rfl⟩ := Nat.exists_eq_succ_of_ne_zero (show f1 ≠ 0 by omega)
  obtain ⟨f2, rfl⟩ := Nat.exists_eq_succ_of_ne_zero (show f2 ≠ 0 by omega)
  by_cases q : k = 401
  · subst q
    refine ⟨c_rw σ 401 32 0 n, μ, K, P, 401, ?_, ?_, c_fr.rw _ _ _ _ _, y_fr.same _, by decide, by decide, fun j hj => (hs.1 j hj).rwc (Nat.ne_of_lt hj) 32 0 n, fun j hj => hs.2.1 j (by omega), hs.2.2.2, fun z => absurd z (by decide)⟩
    · rw [F_X4_scan_9, c_scan63 h.2.1 h1 hk]
      by_cases q2 : i = n
      · rw [h.2.1, if_pos (nI_le (by omega) (by omega))]
      · rw [h.2.1, if_neg (nI_ge (by omega) (by omega)), h1, if_pos (show (400 : Int32) < nI 401 from nI_lt (a := 400) (by decide) (by decide))]
    · rw [F_X9_cut_7, h2, if_pos (show (400 : Int32) < nI 401 from nI_lt (a := 400) (by decide) (by decide))]
  have hk : k ≤ 400 := by omega
  by_cases q2 : i = n
  · subst q2
    refine ⟨c_rw σ k 32 0 i, y_rw μ k 0 i 0 0, fun j => if j = k then 32 else K j, fun j => if j = k then i else P j, k + 1, ?_, y_end0 h h2 hk f2, c_fr.rw _ _ _ _ _, y_fr.rw _ _ _ _ _ _, by omega, by omega, fun j hj => ?_, fun j hj => ?_, fun a b ha hb => ?_, fun _ => ?_⟩
    · rw [F_X4_scan_9, c_scan63 h.2.1 h1 (by omega), h.2.1, if_pos (nI_le (Nat.le_refl i) (by omega))]
    · by_cases q : j = k
      · subst q; simp only [if_pos]
        exact t_tok.new (kd := 32) (by unfold n_kd; omega) h2000 0 0 0 (fun z => absurd z (by decide)) (fun z => absurd z (by decide))
      · simp only [if_neg q]; exact (hs.1 j (Nat.lt_of_le_of_ne (Nat.le_of_lt_succ hj) q)).rw q 32 0 i _ i 0 0
    · simp only [if_neg (Nat.ne_of_lt (Nat.lt_of_succ_lt_succ hj))]; exact hs.2.1 j (Nat.lt_of_succ_lt_succ hj)
    · have qa : a ≠ k := Nat.ne_of_lt (Nat.lt_of_lt_of_le ha (Nat.le_of_lt_succ hb))
      by_cases q : b = k
      · simp only [if_neg qa, if_pos q]; exact hs.2.2.1 a (q ▸ ha)
      · simp only [if_neg qa, if_neg q]; exact hs.2.2.2 a b ha (Nat.lt_of_le_of_ne (Nat.le_of_lt_succ hb) q)
    · simp
  have hin : i < n := by omega
  have hbt := (h.2.2.2 i hin).1
  by_cases hb : t_bl (bt i)
  · obtain ⟨σ', μ', K', P', m, r1, r2, r3, r4, r5⟩ := ih (n - (i + 1)) (by omega) (i + 1) k x1 f1 f2 σ μ K P rfl (by omega) (by omega) h hy h1 h2 (hs.mono (by omega)) (by omega) (by omega) (by omega)
    refine ⟨σ', μ', K', P', m, ?_, ?_, r3, r4, r5⟩
    · rw [F_X4_scan_9, h.2.1, if_neg (nI_ge hin (by omega)), h1, if_neg (show ¬ (400 : Int32) < nI k from nI_nlt (a := 400) hk (by decide)), c_byte h hin, x_b_s, if_neg (nI_nlt hx (by omega)), (c_blank hbt σ).1 hb, x_b_s, if_neg (by decide), F_X4_scan_57, nI_1, r1]
    · rw [y_blank h h2 hk hin hb, r2]
  · obtain ⟨e, kd, w, v, nm, g1, g2, g3, g4, g5, g6, g7, g8, g9⟩ := t_one h hy hin hb h1 h2 hk
    have hs' := hs.add g1 (by clear g8 g9; omega) g3 g4 w v nm g8 g9
    clear g8 g9
    have ht' := h.rw k kd w i (n_tk kd) i v nm
    have c1 : (c_rw σ k kd w i).1 14 5 = nI (k + 1) := by rw [c_rw_1, if_pos ⟨rfl, rfl⟩]
    have c2 : (y_rw μ k (n_tk kd) i v nm).1 0 10 = nI (k + 1) := by rw [y_rw_1, if_pos ⟨rfl, rfl⟩]
    have cl : F_X4_scan_9 (f1 + 1) (nI x1) (nI i) σ = F_X4_scan_9 f1 (nI e) (nI (i + 1)) (c_rw σ k kd w i) := by
      rw [F_X4_scan_9, h.2.1, if_neg (nI_ge hin (by omega)), h1, if_neg (show ¬ (400 : Int32) < nI k from nI_nlt (a := 400) hk (by decide)), c_byte h hin, x_b_s, if_neg (nI_nlt hx (by omega)), (c_blank hbt σ).2 hb, x_b_s, if_pos rfl, g5, x_b_s, g6, x_b_s, F_X4_scan_57, nI_1]
    by_cases q3 : k = 400
    · -- full: the class stops at the next byte, the reference at its next step
      subst q3
      refine ⟨c_rw (c_rw σ 400 kd w i) 401 32 0 n, y_rw μ 400 (n_tk kd) i v nm, _, _, 401, ?_, ?_, (c_fr.rw _ _ _ _ _).tr (c_fr.rw _ _ _ _ _), y_fr.rw _ _ _ _ _ _, by decide, by decide, fun j hj => (hs'.1 j hj).rwc (Nat.ne_of_lt hj) 32 0 n, fun j hj => hs'.2.1 j (by omega), hs'.2.2.2, fun z => absurd z (by decide)⟩
      · obtain ⟨f1, rfl⟩ := Nat.exists_eq_succ_of_ne_zero (show f1 ≠ 0 by omega)
        rw [cl, F_X4_scan_9, c_scan63 ht'.2.1 c1 (by decide), ht'.2.1, c1]
        by_cases q4 : i + 1 = n
        · rw [if_pos (nI_le (by omega) (by omega))]
        · rw [if_neg (nI_ge (by omega) (by omega)), if_pos (show (400 : Int32) < nI (400 + 1) from nI_lt (a := 400) (by decide) (by decide))]
      · obtain ⟨f2, rfl⟩ := Nat.exists_eq_succ_of_ne_zero (show f2 ≠ 0 by omega)
        rw [g7, F_X9_cut_7, c2, if_pos (show (400 : Int32) < nI (400 + 1) from nI_lt (a := 400) (by decide) (by decide))]
    · obtain ⟨σ', μ', K', P', m, r1, r2, r3, r4, r5⟩ := ih (n - e) (by omega) e (k + 1) e (f1 - (e - (i + 1))) f2 _ _ _ _ rfl g2 (by omega) ht' (hy.rw _ _ _ _ _) c1 c2 hs' (by omega) (by omega) (Nat.le_refl e)
      refine ⟨σ', μ', K', P', m, ?_, ?_, (c_fr.rw _ _ _ _ _).tr r3, (y_fr.rw _ _ _ _ _ _).tr r4, r5⟩
      · rw [cl]
        have := c_skip ht' c1 (by omega) g2 (e - (i + 1)) (f1 - (e - (i + 1))) (i + 1) (by omega)
        rw [show f1 - (e - (i + 1)) + (e - (i + 1)) = f1 by omega] at this
        rw [this, r1]
      · rw [g7, r2]
/-- the scan and the cut, from their start -/
theorem t_scans {σ μ : x_Hp} (h : t_tx σ μ n bt) (hy : y_keys μ) : ∃ σ' μ' K P m, F_X4_scan σ = some ((), σ') ∧ F_X9_cut μ = some ((), μ') ∧ c_fr σ σ' ∧ y_fr μ μ' ∧ t_fin σ' μ' K P m := by
  have h2000 := h.1
  have ht : t_tx (x_pI σ 14 5 0) (x_pI μ 0 10 0) n bt := by
    refine ⟨h.1, ?_, ?_, fun j hj => ?_⟩
    · rw [x_pI_1, if_neg (by decide)]; exact h.2.1
    · rw [x_pI_1, if_neg (by decide)]; exact h.2.2.1
    · rw [x_pI_1, if_neg (by omega), x_pI_1, if_neg (by omega)]; exact h.2.2.2 j hj
  have fc : c_fr σ (x_pI σ 14 5 0) := ⟨fun a b p q r => by rw [x_pI_1, if_neg r], fun _ _ _ => rfl⟩
  have fy : y_fr μ (x_pI μ 0 10 0) := ⟨fun a b p q r s => by rw [x_pI_1, if_neg s], fun _ _ _ => rfl⟩
  obtain ⟨σ', μ', K, P, m, r1, r2, r3, r4, r5⟩ := t_scan (n := n) (bt := bt) n 0 0 0 x_fuel x_fuel (x_pI σ 14 5 0) (x_pI μ 0 10 0) (fun _ => 0) (fun _ => 0) (by omega) (by omega) (by omega) ht (fun r hr => hy r hr) (by rw [x_pI_1, if_pos ⟨rfl, rfl⟩]; rfl) (by rw [x_pI_1, if_pos ⟨rfl, rfl⟩]; rfl) ⟨fun j hj => absurd hj (by omega), fun j hj => absurd hj (by omega), fun j hj => absurd hj (by omega), fun a b _ hb => absurd hb (by omega)⟩ (by rw [x_fuel]; omega) (by rw [x_fuel]; omega) (Nat.le_refl 0)
  exact ⟨σ', μ', K, P, m, by rw [F_X4_scan, x_pt_s]; exact r1, by rw [F_X9_cut, x_pt_s]; exact r2, fc.tr r3, fy.tr r4, r5⟩
end T4
