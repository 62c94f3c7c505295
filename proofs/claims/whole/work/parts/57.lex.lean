/-! READING: bytes, runs, words -/
def n_wl : List (List Nat) := [[98, 97, 98, 121], [97, 117, 110, 116], [104, 117, 110, 103, 101, 114, 115], [116, 105, 114, 101, 115], [119, 111, 110, 100, 101, 114, 115], [119, 105, 110, 100, 115], [99, 114, 105, 101, 115], [115, 108, 101, 101, 112, 115], [115, 112, 105, 116, 115], [102, 114, 101, 115, 104], [102, 101, 101, 100, 115], [115, 101, 101, 100], [115, 105, 116, 115], [105, 102], [116, 104, 101, 110], [101, 108, 115, 101], [104, 117, 110, 103, 101, 114], [116, 105, 114, 101, 100], [119, 111, 110, 100, 101, 114], [119, 105, 110, 100], [104, 101, 108, 100], [114, 111, 99, 107], [115, 104, 111, 119], [98, 101, 97, 114, 100], [115, 101, 101, 110]]
/-- which key of the reference a word is -/
def n_kw : List Nat := [0, 1, 3, 4, 5, 6, 7, 8, 9, 10, 11, 12, 2, 13, 14, 15, 16, 17, 18, 19, 20, 21, 22, 23, 24]
def n_wr : List Nat := [0, 1, 12, 2, 3, 4, 5, 6, 7, 8, 9, 10, 11, 13, 14, 15, 16, 17, 18, 19, 20, 21, 22, 23, 24]
theorem n_wl_w : ∀ w, w < 25 → ∀ k, k < 8 → x_words.getD (8 * w + k) 0 = (n_wl.getD w []).getD k 32 := by decide +kernel
theorem n_wl_l : ∀ w, w < 25 → (n_wl.getD w []).length ≤ 7 ∧ ∀ c, c ∈ n_wl.getD w [] → 97 ≤ c ∧ c ≤ 122 := by decide +kernel
theorem n_wl_ne : ∀ w, w < 25 → ∀ u, u < 25 → n_wl.getD w [] = n_wl.getD u [] → w = u := by decide +kernel
theorem n_kw_wr : ∀ r, r < 25 → n_wr.getD r 0 < 25 ∧ n_kw.getD (n_wr.getD r 0) 0 = r := by decide +kernel
theorem n_wr_kw : ∀ w, w < 25 → n_kw.getD w 0 < 25 ∧ n_wr.getD (n_kw.getD w 0) 0 = w := by decide +kernel
/-- the number of a row of letters, 27 a place -/
def n_vl (bt : Nat → Nat) (i : Nat) : Nat → Nat
  | 0 => 0
  | q + 1 => 27 * n_vl bt i q + (bt (i + q) - 96)
def n_vd (bt : Nat → Nat) (i : Nat) : Nat → Nat
  | 0 => 0
  | q + 1 => 10 * n_vd bt i q + (bt (i + q) - 48)
theorem n_vl_inj {bt bu : Nat → Nat} {i j : Nat} : ∀ {p q : Nat}, (∀ k, k < p → 97 ≤ bt (i + k) ∧ bt (i + k) ≤ 122) → (∀ k, k < q → 97 ≤ bu (j + k) ∧ bu (j + k) ≤ 122) → n_vl bt i p = n_vl bu j q → p = q ∧ ∀ k, k < p → bt (i + k) = bu (j + k) := by
  intro p
  induction p with
  | zero =>
    intro q h1 h2 h
    cases q with
    | zero => exact ⟨rfl, fun k hk => by omega⟩
    | succ q =>
      exfalso
      have := h2 q (by omega)
      simp only [n_vl] at h
      omega
  | succ p ih =>
    intro q h1 h2 h
    cases q with
    | zero =>
      exfalso
      have := h1 p (by omega)
      simp only [n_vl] at h
      omega
    | succ q =>
      have a1 := h1 p (by omega)
      have a2 := h2 q (by omega)
      simp only [n_vl] at h
      have hd : bt (i + p) = bu (j + q) := by omega
      have hv : n_vl bt i p = n_vl bu j q := by omega
      obtain ⟨e1, e2⟩ := ih (fun k hk => h1 k (by omega)) (fun k hk => h2 k (by omega)) hv
      refine ⟨by omega, fun k hk => ?_⟩
      by_cases q2 : k = p
      · rw [q2, hd, e1]
      · exact e2 k (by omega)
theorem n_vl_lt {bt : Nat → Nat} {i : Nat} : ∀ q, (∀ k, k < q → bt (i + k) ≤ 122) → n_vl bt i q < 27 ^ q := by
  intro q
  induction q with
  | zero => intro _; show 0 < 1; decide
  | succ q ih =>
    intro h
    have := ih (fun k hk => h k (by omega))
    have := h q (by omega)
    rw [n_vl, Nat.pow_succ]
    omega
theorem n_vd_lt {bt : Nat → Nat} {i : Nat} : ∀ q, (∀ k, k < q → bt (i + k) ≤ 57) → n_vd bt i q < 10 ^ q := by
  intro q
  induction q with
  | zero => intro _; show 0 < 1; decide
  | succ q ih =>
    intro h
    have := ih (fun k hk => h k (by omega))
    have := h q (by omega)
    rw [n_vd, Nat.pow_succ]
    omega
/-- the key of a word -/
def n_kv (w : Nat) : Nat := n_vl (fun k => (n_wl.getD w []).getD k 0) 0 (n_wl.getD w []).length
def t_tx (σ μ : x_Hp) (n : Nat) (bt : Nat → Nat) : Prop := n ≤ 2000 ∧ σ.1 14 1 = nI n ∧ μ.1 0 4 = nI n ∧ ∀ j, j < n → bt j < 256 ∧ σ.1 15 j = nI (bt j) ∧ μ.1 2 j &&& 255 = nI (bt j)
theorem isc256 {c : Nat} (hc : c < 256) : x_isc (nI c) = true := by
  have := pk_vc (nI c)
  rw [(sb_byte c hc).2.1] at this
  rw [x_isc, this]; simp
def t_lt (c : Nat) : Prop := 97 ≤ c ∧ c ≤ 122
def t_dg (c : Nat) : Prop := 48 ≤ c ∧ c ≤ 57
theorem c_let {c : Nat} (h : c < 256) (σ : x_Hp) : (t_lt c → F_X4_isLetter (nI c) σ = some (1, σ)) ∧ (¬ t_lt c → F_X4_isLetter (nI c) σ = some (0, σ)) := by
  unfold t_lt
  rw [F_X4_isLetter]
  refine ⟨fun q => ?_, fun q => ?_⟩
  · rw [if_neg (show ¬ nI c < (97 : Int32) from nI_nlt (b := 97) q.1 (by omega)), if_neg (show ¬ (122 : Int32) < nI c from nI_nlt (a := 122) q.2 (by decide))]
  · by_cases z : c < 97
    · rw [if_pos (show nI c < (97 : Int32) from nI_lt (b := 97) z (by decide))]
    · rw [if_neg (show ¬ nI c < (97 : Int32) from nI_nlt (b := 97) (by omega) (by omega)), if_pos (show (122 : Int32) < nI c from nI_lt (a := 122) (by omega) (by omega))]
theorem y_let (x : Int32) (σ μ : x_Hp) {r : Int32} (h : F_X4_isLetter x σ = some (r, σ)) : F_X9_isLetter x μ = some (r, μ) := by
  rw [F_X4_isLetter] at h
  rw [F_X9_isLetter]
  split
  · rename_i q; rw [if_pos q] at h; cases h; rfl
  · rename_i q; rw [if_neg q] at h
    split
    · rename_i q; rw [if_pos q] at h; cases h; rfl
    · rename_i q; rw [if_neg q] at h; cases h; rfl
theorem c_dig {c : Nat} (h : c < 256) (σ : x_Hp) : (t_dg c → F_X4_isDigit (nI c) σ = some (1, σ)) ∧ (¬ t_dg c → F_X4_isDigit (nI c) σ = some (0, σ)) := by
  unfold t_dg
  rw [F_X4_isDigit]
  refine ⟨fun q => ?_, fun q => ?_⟩
  · rw [if_neg (show ¬ nI c < (48 : Int32) from nI_nlt (b := 48) q.1 (by omega)), if_neg (show ¬ (57 : Int32) < nI c from nI_nlt (a := 57) q.2 (by decide))]
  · by_cases z : c < 48
    · rw [if_pos (show nI c < (48 : Int32) from nI_lt (b := 48) z (by decide))]
    · rw [if_neg (show ¬ nI c < (48 : Int32) from nI_nlt (b := 48) (by omega) (by omega)), if_pos (show (57 : Int32) < nI c from nI_lt (a := 57) (by omega) (by omega))]
theorem y_dig (x : Int32) (σ μ : x_Hp) {r : Int32} (h : F_X4_isDigit x σ = some (r, σ)) : F_X9_isDigit x μ = some (r, μ) := by
  rw [F_X4_isDigit] at h
  rw [F_X9_isDigit]
  split
  · rename_i q; rw [if_pos q] at h; cases h; rfl
  · rename_i q; rw [if_neg q] at h
    split
    · rename_i q; rw [if_pos q] at h; cases h; rfl
    · rename_i q; rw [if_neg q] at h; cases h; rfl
section T1
variable {σ μ : x_Hp} {n : Nat} {bt : Nat → Nat}
theorem c_byte (h : t_tx σ μ n bt) {j : Nat} (hj : j < n) : F_X4_byteAt (nI j) σ = some (nI (bt j), σ) := by
  obtain ⟨h1, -, -, h4⟩ := h
  obtain ⟨a, b, -⟩ := h4 j hj
  rw [F_X4_byteAt, if_neg (nI_pos (by omega)), if_neg (show ¬ (2000 : Int32) ≤ nI j from nI_ge (b := 2000) (by omega) (by decide)), x_gd_t (x_inb_nI (by omega) (by decide)), x_ix_nI (by omega), b, x_gd_t (isc256 a)]
theorem y_byte (h : t_tx σ μ n bt) {j : Nat} (hj : j < n) : F_X9_byteAt (nI j) μ = some (nI (bt j), μ) := by
  obtain ⟨h1, -, h3, h4⟩ := h
  obtain ⟨-, -, b⟩ := h4 j hj
  rw [F_X9_byteAt, h3, if_neg (nI_ge hj (by omega)), x_gd_t (x_inb_nI (by omega) (by decide)), x_ix_nI (by omega), b]
theorem y_byte0 (h : t_tx σ μ n bt) {j : Nat} (hj : n ≤ j) (hj2 : j < 2 ^ 31) : F_X9_byteAt (nI j) μ = some (0, μ) := by
  rw [F_X9_byteAt, h.2.2.1, if_pos (nI_le hj hj2)]
/-- the end of a run, as the class looks for it -/
theorem c_run (h : t_tx σ μ n bt) (x2 x3 : Int32) (P : Nat → Prop) (hx : (x2 = 1 ∧ x3 = 0 ∧ P = t_lt) ∨ (x2 = 0 ∧ x3 = 1 ∧ P = t_dg)) : ∀ (d f j : Nat), j + d = n → d < f → ∃ e, j ≤ e ∧ e ≤ n ∧ (∀ k, j ≤ k → k < e → P (bt k)) ∧ (e < n → ¬ P (bt e)) ∧ F_X4_endOfRun_23 f x2 x3 (nI j) σ = some (nI e, σ) := by
  intro d
  induction d with
  | zero =>
    intro f j h1 h2
    obtain ⟨f, rfl⟩ : ∃ m, f = m + 1 := ⟨f - 1, by omega⟩
    have : j = n := by omega
    subst this
    refine ⟨j, Nat.le_refl _, Nat.le_refl _, fun k _ _ => by omega, fun q => by omega, ?_⟩
    rw [F_X4_endOfRun_23, h.2.1, if_pos (nI_le (Nat.le_refl _) (by have := h.1; omega))]
  | succ d ih =>
    intro f j h1 h2
    obtain ⟨f, rfl⟩ : ∃ m, f = m + 1 := ⟨f - 1, by omega⟩
    have hn := h.1
    have hb := (h.2.2.2 j (by omega)).1
    obtain ⟨e, e1, e2, e3, e4, e5⟩ := ih f (j + 1) (by omega) (by omega)
    have goon : P (bt j) → (F_X4_endOfRun_23 (f + 1) x2 x3 (nI j) σ = F_X4_endOfRun_64 (F_X4_endOfRun_23 f) x2 x3 (nI j) σ) → ∃ e, j ≤ e ∧ e ≤ n ∧ (∀ k, j ≤ k → k < e → P (bt k)) ∧ (e < n → ¬ P (bt e)) ∧ F_X4_endOfRun_23 (f + 1) x2 x3 (nI j) σ = some (nI e, σ) := by
      intro hp he
      refine ⟨e, by omega, e2, fun k k1 k2 => ?_, e4, by rw [he, F_X4_endOfRun_64, nI_1, e5]⟩
      by_cases q : k = j
      · rw [q]; exact hp
      · exact e3 k (by omega) k2
    have stop : ¬ P (bt j) → (F_X4_endOfRun_23 (f + 1) x2 x3 (nI j) σ = some (nI j, σ)) → ∃ e, j ≤ e ∧ e ≤ n ∧ (∀ k, j ≤ k → k < e → P (bt k)) ∧ (e < n → ¬ P (bt e)) ∧ F_X4_endOfRun_23 (f + 1) x2 x3 (nI j) σ = some (nI e, σ) := fun hp he => ⟨j, Nat.le_refl _, by omega, fun k _ _ => by omega, fun _ => hp, he⟩
    have base : F_X4_endOfRun_23 (f + 1) x2 x3 (nI j) σ = if x2 = 0 then F_X4_endOfRun_48 (F_X4_endOfRun_23 f) x2 x3 (nI j) σ else x_b (F_X4_isLetter (nI (bt j)) σ) (fun v6 σ6 => if v6 = 0 then F_X4_endOfRun_48 (F_X4_endOfRun_23 f) x2 x3 (nI j) σ6 else F_X4_endOfRun_64 (F_X4_endOfRun_23 f) x2 x3 (nI j) σ6) := by
      rw [F_X4_endOfRun_23, h.2.1, if_neg (nI_ge (by omega) (by omega)), c_byte h (by omega), x_b_s]
    rcases hx with ⟨q2, q3, qP⟩ | ⟨q2, q3, qP⟩
    · subst q2; subst q3; subst qP
      rw [if_neg (by decide)] at base
      by_cases hp : t_lt (bt j)
      · refine goon hp ?_
        rw [base, (c_let hb σ).1 hp, x_b_s, if_neg (by decide)]
      · refine stop hp ?_
        rw [base, (c_let hb σ).2 hp, x_b_s, if_pos rfl, F_X4_endOfRun_48, if_pos rfl]
    · subst q2; subst q3; subst qP
      rw [if_pos rfl, F_X4_endOfRun_48, if_neg (by decide), c_byte h (by omega), x_b_s] at base
      by_cases hp : t_dg (bt j)
      · refine goon hp ?_
        rw [base, (c_dig hb σ).1 hp, x_b_s, if_neg (by decide)]
      · refine stop hp ?_
        rw [base, (c_dig hb σ).2 hp, x_b_s, if_pos rfl]
theorem c_end (h : t_tx σ μ n bt) {i : Nat} (hi : i < n) : ∃ e, i < e ∧ e ≤ n ∧ F_X4_endOfRun (nI i) σ = some (nI e, σ) ∧ (t_lt (bt i) → (∀ k, i ≤ k → k < e → t_lt (bt k)) ∧ (e < n → ¬ t_lt (bt e))) ∧ (t_dg (bt i) → (∀ k, i ≤ k → k < e → t_dg (bt k)) ∧ (e < n → ¬ t_dg (bt e))) ∧ (¬ t_lt (bt i) → ¬ t_dg (bt i) → e = i + 1) := by
  have hn := h.1
  have hb := (h.2.2.2 i hi).1
  have base : ∀ a b : Int32, F_X4_isLetter (nI (bt i)) σ = some (a, σ) → F_X4_isDigit (nI (bt i)) σ = some (b, σ) → F_X4_endOfRun (nI i) σ = F_X4_endOfRun_23 x_fuel a b (nI (i + 1)) σ := by
    intro a b h1 h2
    rw [F_X4_endOfRun, c_byte h hi, x_b_s, h1, x_b_s, c_byte h hi, x_b_s, h2, x_b_s, nI_1]
  by_cases hl : t_lt (bt i)
  · have hd : ¬ t_dg (bt i) := by unfold t_lt at hl; unfold t_dg; omega
    obtain ⟨e, e1, e2, e3, e4, e5⟩ := c_run h 1 0 t_lt (Or.inl ⟨rfl, rfl, rfl⟩) (n - (i + 1)) x_fuel (i + 1) (by omega) (by rw [x_fuel]; omega)
    refine ⟨e, by omega, e2, by rw [base 1 0 ((c_let hb σ).1 hl) ((c_dig hb σ).2 hd), e5], fun _ => ⟨fun k k1 k2 => ?_, e4⟩, fun q => absurd q hd, fun q => absurd hl q⟩
    by_cases q : k = i
    · rw [q]; exact hl
    · exact e3 k (by omega) k2
  · by_cases hd : t_dg (bt i)
    · obtain ⟨e, e1, e2, e3, e4, e5⟩ := c_run h 0 1 t_dg (Or.inr ⟨rfl, rfl, rfl⟩) (n - (i + 1)) x_fuel (i + 1) (by omega) (by rw [x_fuel]; omega)
      refine ⟨e, by omega, e2, by rw [base 0 1 ((c_let hb σ).2 hl) ((c_dig hb σ).1 hd), e5], fun q => absurd q hl, fun _ => ⟨fun k k1 k2 => ?_, e4⟩, fun _ q => absurd hd q⟩
      by_cases q : k = i
      · rw [q]; exact hd
      · exact e3 k (by omega) k2
    · refine ⟨i + 1, by omega, by omega, ?_, fun q => absurd q hl, fun q => absurd q hd, fun _ _ => rfl⟩
      rw [base 0 0 ((c_let hb σ).2 hl) ((c_dig hb σ).2 hd), show x_fuel = 65535 + 1 from rfl, F_X4_endOfRun_23]
      split
      · rfl
      · rw [if_pos rfl, F_X4_endOfRun_48, if_pos rfl]
/-! names and numbers -/
theorem t_l96 {c : Nat} (hc : t_lt c) : ((nI c - (97 : Int32)) + (1 : Int32)).toInt64 = lN (c - 96) := by
  unfold t_lt at hc
  rw [show (97 : Int32) = nI 97 from rfl, pk_sub hc.1, nI_1, nI_l (by omega)]
  congr 1; omega
theorem c_name (h : t_tx σ μ n bt) {i e : Nat} (he : e ≤ n) (hl : ∀ k, i ≤ k → k < e → t_lt (bt k)) : ∀ (d f q : Nat), q + d = e - i → d < f → i ≤ e → F_X4_nameAt_5 f (nI e) (lN (n_vl bt i q)) (nI (i + q)) σ = some (lN (n_vl bt i (e - i)), σ) := by
  intro d
  induction d with
  | zero =>
    intro f q h1 h2 h3
    obtain ⟨f, rfl⟩ : ∃ m, f = m + 1 := ⟨f - 1, by omega⟩
    have : q = e - i := by omega
    subst this
    rw [F_X4_nameAt_5, if_pos (nI_le (by omega) (by have := h.1; omega))]
  | succ d ih =>
    intro f q h1 h2 h3
    obtain ⟨f, rfl⟩ : ∃ m, f = m + 1 := ⟨f - 1, by omega⟩
    have := ih f (q + 1) (by omega) (by omega) h3
    rw [F_X4_nameAt_5, if_neg (nI_ge (by omega) (by have := h.1; omega)), c_byte h (by omega), x_b_s, t_l96 (hl (i + q) (by omega) (by omega)), show (27 : Int64) = lN 27 from rfl, lN_mul, lN_add, nI_1, show n_vl bt i q * 27 + (bt (i + q) - 96) = n_vl bt i (q + 1) by rw [n_vl]; omega]
    exact this
theorem c_num (h : t_tx σ μ n bt) {i e : Nat} (he : e ≤ n) (hl : ∀ k, i ≤ k → k < e → t_dg (bt k)) : ∀ (d f q : Nat) (x : Int32), q + d = e - i → d < f → i ≤ e → ∃ y, F_X4_numberAt_5 f (nI e) x (nI (i + q)) σ = some (y, σ) ∧ (x = nI (n_vd bt i q) → y = nI (n_vd bt i (e - i))) := by
  intro d
  induction d with
  | zero =>
    intro f q x h1 h2 h3
    obtain ⟨f, rfl⟩ : ∃ m, f = m + 1 := ⟨f - 1, by omega⟩
    have : q = e - i := by omega
    subst this
    exact ⟨x, by rw [F_X4_numberAt_5, if_pos (nI_le (by omega) (by have := h.1; omega))], fun z => z⟩
  | succ d ih =>
    intro f q x h1 h2 h3
    obtain ⟨f, rfl⟩ : ∃ m, f = m + 1 := ⟨f - 1, by omega⟩
    have hd := hl (i + q) (by omega) (by omega)
    unfold t_dg at hd
    obtain ⟨y, g1, g2⟩ := ih f (q + 1) (x * 10 + (nI (bt (i + q)) - 48)) (by omega) (by omega) h3
    refine ⟨y, ?_, fun z => g2 ?_⟩
    · rw [F_X4_numberAt_5, if_neg (nI_ge (by omega) (by have := h.1; omega)), c_byte h (by omega), x_b_s, nI_1]; exact g1
    · rw [z, show (48 : Int32) = nI 48 from rfl, pk_sub hd.1, show nI (n_vd bt i q) * (10 : Int32) = nI (n_vd bt i q * 10) from pk_mul _ 10, nI_add, n_vd]
      congr 1; omega
/-- the reference goes through a word -/
theorem y_word (h : t_tx σ μ n bt) {i e : Nat} (hie : i ≤ e) (he : e ≤ n) (hl : ∀ k, i ≤ k → k < e → t_lt (bt k)) (hn : e < n → ¬ t_lt (bt e)) (K : Int32 → x_Hp → Option (Unit × x_Hp)) : ∀ (d f q : Nat), q + d = e - i → d < f → F_X9_cut_85 K f (nI i) (nI q) (lN (n_vl bt i (if q ≤ 8 then q else 8))) μ = F_X9_cut_135 K (nI i) (nI (e - i)) (lN (n_vl bt i (if e - i ≤ 8 then e - i else 8))) (if e - i ≤ 8 then 1 else 3) μ := by
  have h2000 := h.1
  intro d
  induction d with
  | zero =>
    intro f q h1 h2
    obtain ⟨f, rfl⟩ : ∃ m, f = m + 1 := ⟨f - 1, by omega⟩
    have : q = e - i := by omega
    subst this
    have hb : ∃ x, F_X9_byteAt (nI e) μ = some (x, μ) ∧ F_X9_isLetter x μ = some (0, μ) := by
      by_cases q : e < n
      · exact ⟨_, y_byte h q, y_let _ σ μ ((c_let (h.2.2.2 e q).1 σ).2 (hn q))⟩
      · exact ⟨0, y_byte0 h (by omega) (by omega), rfl⟩
    obtain ⟨x, b1, b2⟩ := hb
    rw [F_X9_cut_85, nI_add, show i + (e - i) = e by omega, b1, x_b_s, b2, x_b_s, if_pos rfl]
    by_cases q8 : e - i ≤ 8
    · rw [if_pos (show nI (e - i) ≤ (8 : Int32) from nI_le (b := 8) q8 (by decide)), if_pos q8, if_pos q8]
    · rw [if_neg (show ¬ nI (e - i) ≤ (8 : Int32) from nI_ge (a := 8) (by omega) (by omega)), if_neg q8, if_neg q8]
  | succ d ih =>
    intro f q h1 h2
    obtain ⟨f, rfl⟩ : ∃ m, f = m + 1 := ⟨f - 1, by omega⟩
    have hlt := hl (i + q) (by omega) (by omega)
    have b := y_byte h (j := i + q) (by omega)
    have := ih f (q + 1) (by omega) (by omega)
    rw [F_X9_cut_85, nI_add, b, x_b_s, y_let _ σ μ ((c_let (h.2.2.2 (i + q) (by omega)).1 σ).1 hlt), x_b_s, if_neg (by decide)]
    by_cases q8 : 8 ≤ q
    · rw [if_pos (show (8 : Int32) ≤ nI q from nI_le (a := 8) q8 (by omega)), F_X9_cut_118, nI_1, ← this]
      congr 2
      split
      · rw [if_neg (by omega)]; congr 1; omega
      · rw [if_neg (by omega)]
    · have h0 : ¬ nI (bt (i + q)) = 0 := by unfold t_lt at hlt; exact nI_ne0 (by omega) (by omega)
      rw [if_neg (show ¬ (8 : Int32) ≤ nI q from nI_ge (b := 8) (by omega) (by decide)), b, x_b_s, F_X9_appends, if_neg h0, x_b_s, F_X9_cut_118, nI_1, ← this, if_pos (by omega), if_pos (by omega), t_l96 hlt, show (27 : Int64) = lN 27 from rfl, lN_mul, lN_add]
      rfl
theorem y_num (h : t_tx σ μ n bt) {i e : Nat} (hie : i ≤ e) (he : e ≤ n) (hl : ∀ k, i ≤ k → k < e → t_dg (bt k)) (hn : e < n → ¬ t_dg (bt e)) (K : Int32 → x_Hp → Option (Unit × x_Hp)) : ∀ (d f q : Nat), q + d = e - i → d < f → F_X9_cut_208 K f (nI i) (nI q) (nI (n_vd bt i (if q ≤ 4 then q else 4))) μ = F_X9_cut_261 K (nI i) (nI (e - i)) (nI (n_vd bt i (if e - i ≤ 4 then e - i else 4))) (if e - i ≤ 4 then 2 else 3) μ := by
  have h2000 := h.1
  intro d
  induction d with
  | zero =>
    intro f q h1 h2
    obtain ⟨f, rfl⟩ : ∃ m, f = m + 1 := ⟨f - 1, by omega⟩
    have : q = e - i := by omega
    subst this
    have hb : ∃ x, F_X9_byteAt (nI e) μ = some (x, μ) ∧ F_X9_isDigit x μ = some (0, μ) := by
      by_cases q : e < n
      · exact ⟨_, y_byte h q, y_dig _ σ μ ((c_dig (h.2.2.2 e q).1 σ).2 (hn q))⟩
      · exact ⟨0, y_byte0 h (by omega) (by omega), rfl⟩
    obtain ⟨x, b1, b2⟩ := hb
    rw [F_X9_cut_208, nI_add, show i + (e - i) = e by omega, b1, x_b_s, b2, x_b_s, if_pos rfl]
    by_cases q8 : e - i ≤ 4
    · rw [if_pos (show nI (e - i) ≤ (4 : Int32) from nI_le (b := 4) q8 (by decide)), if_pos q8, if_pos q8]
    · rw [if_neg (show ¬ nI (e - i) ≤ (4 : Int32) from nI_ge (a := 4) (by omega) (by omega)), if_neg q8, if_neg q8]
  | succ d ih =>
    intro f q h1 h2
    obtain ⟨f, rfl⟩ : ∃ m, f = m + 1 := ⟨f - 1, by omega⟩
    have hlt := hl (i + q) (by omega) (by omega)
    have b := y_byte h (j := i + q) (by omega)
    have := ih f (q + 1) (by omega) (by omega)
    rw [F_X9_cut_208, nI_add, b, x_b_s, y_dig _ σ μ ((c_dig (h.2.2.2 (i + q) (by omega)).1 σ).1 hlt), x_b_s, if_neg (by decide)]
    by_cases q8 : 4 ≤ q
    · rw [if_pos (show (4 : Int32) ≤ nI q from nI_le (a := 4) q8 (by omega)), F_X9_cut_244, nI_1, ← this]
      congr 2
      split
      · rw [if_neg (by omega)]; congr 1; omega
      · rw [if_neg (by omega)]
    · unfold t_dg at hlt
      rw [if_neg (show ¬ (4 : Int32) ≤ nI q from nI_ge (b := 4) (by omega) (by decide)), b, x_b_s, F_X9_cut_244, nI_1, ← this, if_pos (by omega), if_pos (by omega), show (10 : Int32) * nI (n_vd bt i q) = nI (10 * n_vd bt i q) from pk_mul 10 _, nI_add, show (48 : Int32) = nI 48 from rfl, pk_sub (by omega), show 10 * n_vd bt i q + bt (i + q) - 48 = n_vd bt i (q + 1) by rw [n_vd]; omega]
end T1
