/-! READING: all tokens -/
def c_rw (σ : x_Hp) (k kd : Nat) (w : Int64) (i : Nat) : x_Hp := x_pI (x_pL (x_pI (x_pI σ 16 k (nI kd)) 18 k (nI i)) 17 k w) 14 5 (nI (k + 1))
def y_rw (μ : x_Hp) (k kd i : Nat) (v : Int32) (nm : Int64) : x_Hp := x_pI (x_pL (x_pI (x_pI (x_pI μ 3 k (nI kd)) 4 k (nI i)) 5 k v) 6 k nm) 0 10 (nI (k + 1))
theorem c_rw_1 (σ : x_Hp) (k kd : Nat) (w : Int64) (i a b : Nat) : (c_rw σ k kd w i).1 a b = if a = 14 ∧ b = 5 then nI (k + 1) else if a = 18 ∧ b = k then nI i else if a = 16 ∧ b = k then nI kd else σ.1 a b := by
  rw [c_rw, x_pI_1, x_pL_1, x_pI_1, x_pI_1]
theorem c_rw_2 (σ : x_Hp) (k kd : Nat) (w : Int64) (i a b : Nat) : (c_rw σ k kd w i).2 a b = if a = 17 ∧ b = k then w else σ.2 a b := by
  rw [c_rw, x_pI_2, x_pL_2]; rfl
theorem y_rw_1 (μ : x_Hp) (k kd i : Nat) (v : Int32) (nm : Int64) (a b : Nat) : (y_rw μ k kd i v nm).1 a b = if a = 0 ∧ b = 10 then nI (k + 1) else if a = 5 ∧ b = k then v else if a = 4 ∧ b = k then nI i else if a = 3 ∧ b = k then nI kd else μ.1 a b := by
  rw [y_rw, x_pI_1, x_pL_1, x_pI_1, x_pI_1, x_pI_1]
theorem y_rw_2 (μ : x_Hp) (k kd i : Nat) (v : Int32) (nm : Int64) (a b : Nat) : (y_rw μ k kd i v nm).2 a b = if a = 6 ∧ b = k then nm else μ.2 a b := by
  rw [y_rw, x_pI_2, x_pL_2]; rfl
theorem c_addRow {σ : x_Hp} {k : Nat} (h : σ.1 14 5 = nI k) (hk : k < 402) (kd : Nat) (w : Int64) (i : Nat) : F_X4_addRow (nI kd) w (nI i) σ = some ((), c_rw σ k kd w i) := by
  have e1 : ∀ ρ : x_Hp, ρ.1 14 5 = nI k → F_X4_addRow_54 ρ = some ((), x_pI ρ 14 5 (nI (k + 1))) := fun ρ hρ => by rw [F_X4_addRow_54, x_pt_s, hρ, nI_1]
  have r1 : (x_pI σ 16 k (nI kd)).1 14 5 = nI k := by rw [x_pI_1, if_neg (by omega)]; exact h
  have r2 : (x_pI (x_pI σ 16 k (nI kd)) 18 k (nI i)).1 14 5 = nI k := by rw [x_pI_1, if_neg (by omega)]; exact r1
  rw [F_X4_addRow, h, e_put, x_b_s, x_pT_nI _ _ (by rw [lnX_16]; exact hk), r1, e_put, x_b_s, x_pT_nI _ _ (by rw [lnX_18]; exact hk), r2, if_neg (nI_pos (by omega)), if_neg (show ¬ (402 : Int32) ≤ nI k from nI_ge (b := 402) hk (by decide)), x_gd_t (x_inb_nI hk (by decide)), x_pt_s, x_ix_nI (by omega), e1 _ (by rw [x_pL_1]; exact r2)]
  rfl
theorem y_token {μ : x_Hp} {k : Nat} (h : μ.1 0 10 = nI k) (hk : k < 403) (kd i : Nat) (v : Int32) (nm : Int64) : F_X9_token (nI kd) (nI i) v nm μ = some ((), y_rw μ k kd i v nm) := by
  have hi : x_inb (nI k) 403 = true := x_inb_nI hk (by decide)
  have r1 : ∀ (ρ : x_Hp) (a b : Nat) (x : Int32), ρ.1 0 10 = nI k → a ≠ 0 → (x_pI ρ a b x).1 0 10 = nI k := fun ρ a b x h1 h2 => by rw [x_pI_1, if_neg (by omega)]; exact h1
  have q1 := r1 μ 3 k (nI kd) h (by decide)
  have q2 := r1 _ 4 k (nI i) q1 (by decide)
  have q3 := r1 _ 5 k v q2 (by decide)
  rw [F_X9_token, h, x_gd_t hi, x_pt_s, x_ix_nI (by omega), q1, x_gd_t hi, x_pt_s, x_ix_nI (by omega), q2, x_gd_t hi, x_pt_s, x_ix_nI (by omega), q3, x_gd_t hi, x_pt_s, x_pt_s, x_ix_nI (by omega), x_pL_1, q3, nI_1]
  rfl
/-- a token, as both have it -/
def t_tok (σ μ : x_Hp) (k kd pl : Nat) : Prop := n_kd kd ∧ pl ≤ 2000 ∧ σ.1 16 k = nI kd ∧ σ.1 18 k = nI pl ∧ μ.1 3 k = nI (n_tk kd) ∧ μ.1 4 k = nI pl ∧ (kd = 31 → ∃ wv, wv ≤ 9999 ∧ σ.2 17 k = lN wv ∧ μ.1 5 k = nI wv) ∧ (kd = 30 → σ.2 17 k = μ.2 6 k)
theorem t_tok.rw {σ μ : x_Hp} {j k kd pl : Nat} (h : t_tok σ μ j kd pl) (hj : j ≠ k) (kd' : Nat) (w : Int64) (i kd2 i2 : Nat) (v : Int32) (nm : Int64) : t_tok (c_rw σ k kd' w i) (y_rw μ k kd2 i2 v nm) j kd pl := by
  obtain ⟨h1, h2, h3, h4, h5, h6, h7, h8⟩ := h
  refine ⟨h1, h2, ?_, ?_, ?_, ?_, fun q => ?_, fun q => ?_⟩
  · rw [c_rw_1, if_neg (fun z => absurd z.1 (by decide)), if_neg (fun z => absurd z.1 (by decide)), if_neg (fun z => hj z.2)]; exact h3
  · rw [c_rw_1, if_neg (fun z => absurd z.1 (by decide)), if_neg (fun z => hj z.2), if_neg (fun z => absurd z.1 (by decide))]; exact h4
  · rw [y_rw_1, if_neg (fun z => absurd z.1 (by decide)), if_neg (fun z => absurd z.1 (by decide)), if_neg (fun z => absurd z.1 (by decide)), if_neg (fun z => hj z.2)]; exact h5
  · rw [y_rw_1, if_neg (fun z => absurd z.1 (by decide)), if_neg (fun z => absurd z.1 (by decide)), if_neg (fun z => hj z.2), if_neg (fun z => absurd z.1 (by decide))]; exact h6
  · obtain ⟨wv, a, b, c⟩ := h7 q
    exact ⟨wv, a, by rw [c_rw_2, if_neg (fun z => hj z.2)]; exact b, by rw [y_rw_1, if_neg (fun z => absurd z.1 (by decide)), if_neg (fun z => hj z.2), if_neg (fun z => absurd z.1 (by decide)), if_neg (fun z => absurd z.1 (by decide))]; exact c⟩
  · rw [c_rw_2, if_neg (fun z => hj z.2), y_rw_2, if_neg (fun z => hj z.2)]; exact h8 q
theorem t_tok.new {σ μ : x_Hp} {k kd pl : Nat} (h1 : n_kd kd) (h2 : pl ≤ 2000) (w : Int64) (v : Int32) (nm : Int64) (h3 : kd = 31 → ∃ wv, wv ≤ 9999 ∧ w = lN wv ∧ v = nI wv) (h4 : kd = 30 → w = nm) : t_tok (c_rw σ k kd w pl) (y_rw μ k (n_tk kd) pl v nm) k kd pl := by
  refine ⟨h1, h2, ?_, ?_, ?_, ?_, fun q => ?_, fun q => ?_⟩
  · rw [c_rw_1, if_neg (by omega), if_neg (by omega), if_pos ⟨rfl, rfl⟩]
  · rw [c_rw_1, if_neg (by omega), if_pos ⟨rfl, rfl⟩]
  · rw [y_rw_1, if_neg (by omega), if_neg (by omega), if_neg (by omega), if_pos ⟨rfl, rfl⟩]
  · rw [y_rw_1, if_neg (by omega), if_neg (by omega), if_pos ⟨rfl, rfl⟩]
  · obtain ⟨wv, a, b, c⟩ := h3 q
    exact ⟨wv, a, by rw [c_rw_2, if_pos ⟨rfl, rfl⟩]; exact b, by rw [y_rw_1, if_neg (by omega), if_pos ⟨rfl, rfl⟩]; exact c⟩
  · rw [c_rw_2, if_pos ⟨rfl, rfl⟩, y_rw_2, if_pos ⟨rfl, rfl⟩]; exact h4 q
section T3
variable {σ μ : x_Hp} {n : Nat} {bt : Nat → Nat}
theorem t_tx.rw (h : t_tx σ μ n bt) (k kd : Nat) (w : Int64) (i kd2 i2 : Nat) (v : Int32) (nm : Int64) : t_tx (c_rw σ k kd w i) (y_rw μ k kd2 i2 v nm) n bt := by
  obtain ⟨h1, h2, h3, h4⟩ := h
  refine ⟨h1, ?_, ?_, fun j hj => ?_⟩
  · rw [c_rw_1, if_neg (by omega), if_neg (by omega), if_neg (by omega)]; exact h2
  · rw [y_rw_1, if_neg (by omega), if_neg (by omega), if_neg (by omega), if_neg (by omega)]; exact h3
  · rw [c_rw_1, if_neg (by omega), if_neg (by omega), if_neg (by omega), y_rw_1, if_neg (by omega), if_neg (by omega), if_neg (by omega), if_neg (by omega)]; exact h4 j hj
def t_bl (c : Nat) : Prop := c = 9 ∨ c = 10 ∨ c = 13 ∨ c = 32
/-- a sign: what both call it -/
def n_sg (c : Nat) : Nat := if c = 43 ∨ c = 45 ∨ c = 42 ∨ c = 47 ∨ c = 59 ∨ c = 61 ∨ c = 60 ∨ c = 40 ∨ c = 41 then c else 33
theorem c_sign (h : t_tx σ μ n bt) {i e k : Nat} (hi : i < n) (hl : ¬ t_lt (bt i)) (hd : ¬ t_dg (bt i)) (hk : σ.1 14 5 = nI k) (hk2 : k < 402) : F_X4_addToken (nI i) (nI e) σ = some ((), c_rw σ k (n_sg (bt i)) 0 i) := by
  have hb := (h.2.2.2 i hi).1
  have e' : ∀ c, c < 256 → (nI (bt i) = nI c ↔ bt i = c) := fun c hc => nI_eq (by omega) (by omega)
  have k95 : F_X4_addToken_95 (nI i) (nI (bt i)) σ = some ((), c_rw σ k (bt i) 0 i) := by
    rw [F_X4_addToken_95, F_X4_addToken_100, if_neg (by decide), F_X4_addToken_114, c_addRow hk hk2, x_b_s]
  have k0 : F_X4_addToken_100 (nI i) (nI (bt i)) 0 σ = some ((), c_rw σ k 33 0 i) := by
    rw [F_X4_addToken_100, if_pos rfl, F_X4_addToken_114, show (33 : Int32) = nI 33 from rfl, c_addRow hk hk2, x_b_s]
  have x43 : nI (bt i) = 43 ↔ bt i = 43 := e' 43 (by decide)
  have x45 : nI (bt i) = 45 ↔ bt i = 45 := e' 45 (by decide)
  have x42 : nI (bt i) = 42 ↔ bt i = 42 := e' 42 (by decide)
  have x47 : nI (bt i) = 47 ↔ bt i = 47 := e' 47 (by decide)
  have x59 : nI (bt i) = 59 ↔ bt i = 59 := e' 59 (by decide)
  have x61 : nI (bt i) = 61 ↔ bt i = 61 := e' 61 (by decide)
  have x60 : nI (bt i) = 60 ↔ bt i = 60 := e' 60 (by decide)
  have x40 : nI (bt i) = 40 ↔ bt i = 40 := e' 40 (by decide)
  have x41 : nI (bt i) = 41 ↔ bt i = 41 := e' 41 (by decide)
  rw [F_X4_addToken, c_byte h hi, x_b_s, (c_let hb σ).2 hl, x_b_s, if_pos rfl, (c_dig hb σ).2 hd, x_b_s, if_pos rfl, F_X4_isSign]
  by_cases q1 : bt i = 43
  · rw [if_pos (x43.mpr q1), x_b_s, if_neg (by decide), k95, n_sg, if_pos (by omega)]
  rw [if_neg (fun z => q1 (x43.mp z))]
  by_cases q2 : bt i = 45
  · rw [if_pos (x45.mpr q2), x_b_s, if_neg (by decide), k95, n_sg, if_pos (by omega)]
  rw [if_neg (fun z => q2 (x45.mp z))]
  by_cases q3 : bt i = 42
  · rw [if_pos (x42.mpr q3), x_b_s, if_neg (by decide), k95, n_sg, if_pos (by omega)]
  rw [if_neg (fun z => q3 (x42.mp z))]
  by_cases q4 : bt i = 47
  · rw [if_pos (x47.mpr q4), x_b_s, if_neg (by decide), k95, n_sg, if_pos (by omega)]
  rw [if_neg (fun z => q4 (x47.mp z)), x_b_s, if_pos rfl]
  by_cases q5 : bt i = 59
  · rw [if_pos (x59.mpr q5), k95, n_sg, if_pos (by omega)]
  rw [if_neg (fun z => q5 (x59.mp z))]
  by_cases q6 : bt i = 61
  · rw [if_pos (x61.mpr q6), k95, n_sg, if_pos (by omega)]
  rw [if_neg (fun z => q6 (x61.mp z))]
  by_cases q7 : bt i = 60
  · rw [if_pos (x60.mpr q7), k95, n_sg, if_pos (by omega)]
  rw [if_neg (fun z => q7 (x60.mp z))]
  by_cases q8 : bt i = 40
  · rw [if_pos (x40.mpr q8), k95, n_sg, if_pos (by omega)]
  rw [if_neg (fun z => q8 (x40.mp z))]
  by_cases q9 : bt i = 41
  · rw [if_pos (x41.mpr q9), k95, n_sg, if_pos (by omega)]
  rw [if_neg (fun z => q9 (x41.mp z)), k0, n_sg, if_neg (by omega)]
theorem y_sign {i k c : Nat} (hc : c < 256) (hk : μ.1 0 10 = nI k) (hk2 : k < 403) (x3 : Int32) : F_X9_sign (nI i) (nI c) x3 μ = some (1, y_rw μ k (n_tk (n_sg c)) i 0 0) := by
  have e' : ∀ d, d < 256 → (nI c = nI d ↔ c = d) := fun d hd => nI_eq (by omega) (by omega)
  have x43 : nI c = 43 ↔ c = 43 := e' 43 (by decide)
  have x45 : nI c = 45 ↔ c = 45 := e' 45 (by decide)
  have x42 : nI c = 42 ↔ c = 42 := e' 42 (by decide)
  have x47 : nI c = 47 ↔ c = 47 := e' 47 (by decide)
  have x59 : nI c = 59 ↔ c = 59 := e' 59 (by decide)
  have x61 : nI c = 61 ↔ c = 61 := e' 61 (by decide)
  have x60 : nI c = 60 ↔ c = 60 := e' 60 (by decide)
  have x40 : nI c = 40 ↔ c = 40 := e' 40 (by decide)
  have x41 : nI c = 41 ↔ c = 41 := e' 41 (by decide)
  have k95 : ∀ d, F_X9_sign_95 (nI i) (nI d) μ = some (1, y_rw μ k d i 0 0) := fun d => by
    rw [F_X9_sign_95, y_token hk hk2, x_b_s]
  have k85 : ∀ d, F_X9_sign_85 (nI i) (nI c) (nI d) μ = some (1, y_rw μ k (if c = 60 then 13 else d) i 0 0) := fun d => by
    rw [F_X9_sign_85]
    by_cases q : c = 60
    · rw [if_pos (x60.mpr q), if_pos q]; exact k95 13
    · rw [if_neg (fun z => q (x60.mp z)), if_neg q]; exact k95 d
  have k75 : ∀ d, F_X9_sign_75 (nI i) (nI c) (nI d) μ = some (1, y_rw μ k (if c = 60 then 13 else if c = 47 then 15 else d) i 0 0) := fun d => by
    rw [F_X9_sign_75]
    by_cases q : c = 47
    · rw [if_pos (x47.mpr q), if_pos q]; exact k85 15
    · rw [if_neg (fun z => q (x47.mp z)), if_neg q]; exact k85 d
  have k65 : ∀ d, F_X9_sign_65 (nI i) (nI c) (nI d) μ = some (1, y_rw μ k (if c = 60 then 13 else if c = 47 then 15 else if c = 42 then 10 else d) i 0 0) := fun d => by
    rw [F_X9_sign_65]
    by_cases q : c = 42
    · rw [if_pos (x42.mpr q), if_pos q]; exact k75 10
    · rw [if_neg (fun z => q (x42.mp z)), if_neg q]; exact k75 d
  have k55 : ∀ d, F_X9_sign_55 (nI i) (nI c) (nI d) μ = some (1, y_rw μ k (if c = 60 then 13 else if c = 47 then 15 else if c = 42 then 10 else if c = 45 then 9 else d) i 0 0) := fun d => by
    rw [F_X9_sign_55]
    by_cases q : c = 45
    · rw [if_pos (x45.mpr q), if_pos q]; exact k65 9
    · rw [if_neg (fun z => q (x45.mp z)), if_neg q]; exact k65 d
  have k43 : ∀ d, F_X9_sign_43 (nI i) (nI c) (nI d) μ = some (1, y_rw μ k (if c = 60 then 13 else if c = 47 then 15 else if c = 42 then 10 else if c = 45 then 9 else if c = 43 then 8 else d) i 0 0) := fun d => by
    rw [F_X9_sign_43]
    by_cases q : c = 43
    · rw [if_pos (x43.mpr q), if_pos q]; exact k55 8
    · rw [if_neg (fun z => q (x43.mp z)), if_neg q]; exact k55 d
  have fin : ∀ d, (if c = 60 then 13 else if c = 47 then 15 else if c = 42 then 10 else if c = 45 then 9 else if c = 43 then 8 else d) = n_tk (n_sg c) → F_X9_sign_43 (nI i) (nI c) (nI d) μ = some (1, y_rw μ k (n_tk (n_sg c)) i 0 0) := fun d e => by rw [k43, e]
  rw [F_X9_sign]
  by_cases q1 : c = 59
  · rw [if_pos (x59.mpr q1)]; exact fin 4 (by subst q1; rfl)
  rw [if_neg (fun z => q1 (x59.mp z))]
  by_cases q2 : c = 61
  · rw [if_pos (x61.mpr q2)]; exact fin 5 (by subst q2; rfl)
  rw [if_neg (fun z => q2 (x61.mp z))]
  by_cases q3 : c = 40
  · rw [if_pos (x40.mpr q3)]; exact fin 6 (by subst q3; rfl)
  rw [if_neg (fun z => q3 (x40.mp z))]
  by_cases q4 : c = 41
  · rw [if_pos (x41.mpr q4)]; exact fin 7 (by subst q4; rfl)
  rw [if_neg (fun z => q4 (x41.mp z))]
  refine fin 3 ?_
  by_cases z1 : c = 60
  · subst z1; rfl
  by_cases z2 : c = 47
  · subst z2; rfl
  by_cases z3 : c = 42
  · subst z3; rfl
  by_cases z4 : c = 45
  · subst z4; rfl
  by_cases z5 : c = 43
  · subst z5; rfl
  rw [if_neg z1, if_neg z2, if_neg z3, if_neg z4, if_neg z5, n_sg, if_neg (by omega)]; rfl
/-- one token more, both -/
theorem t_one (h : t_tx σ μ n bt) (hk : y_keys μ) {i k : Nat} (hi : i < n) (hb : ¬ t_bl (bt i)) (h1 : σ.1 14 5 = nI k) (h2 : μ.1 0 10 = nI k) (hk400 : k ≤ 400) : ∃ e kd w v nm, i < e ∧ e ≤ n ∧ n_kd kd ∧ kd ≠ 32 ∧ F_X4_endOfRun (nI i) σ = some (nI e, σ) ∧ F_X4_addToken (nI i) (nI e) σ = some ((), c_rw σ k kd w i) ∧ (∀ f, F_X9_cut_7 (f + 1) (nI i) μ = F_X9_cut_7 f (nI e) (y_rw μ k (n_tk kd) i v nm)) ∧ (kd = 31 → ∃ wv, wv ≤ 9999 ∧ w = lN wv ∧ v = nI wv) ∧ (kd = 30 → w = nm) := by
  have h2000 := h.1
  have hbt := (h.2.2.2 i hi).1
  obtain ⟨e, e1, e2, e3, e4, e5, e6⟩ := c_end h hi
  -- the reference comes to the byte
  have base : ∀ f, F_X9_cut_7 (f + 1) (nI i) μ = x_b (F_X9_isLetter (nI (bt i)) μ) (fun v3 σ3 => if v3 = 0 then x_b (F_X9_isDigit (nI (bt i)) σ3) (fun v4 σ4 => if v4 = 0 then x_b (F_X9_byteAt (nI i + 1) σ4) (fun v5 σ5 => x_b (F_X9_sign (nI i) (nI (bt i)) v5 σ5) (fun v6 σ6 => F_X9_cut_291 (F_X9_cut_7 f) (nI i + v6) σ6)) else F_X9_cut_208 (F_X9_cut_7 f) x_fuel (nI i) 0 0 σ4) else F_X9_cut_85 (F_X9_cut_7 f) x_fuel (nI i) 0 0 σ3) := by
    intro f
    unfold t_bl at hb
    have e' : ∀ d, d < 256 → (nI (bt i) = nI d ↔ bt i = d) := fun d hd => nI_eq (by omega) (by omega)
    have x9 : nI (bt i) = 9 ↔ bt i = 9 := e' 9 (by decide)
    have x10 : nI (bt i) = 10 ↔ bt i = 10 := e' 10 (by decide)
    have x13 : nI (bt i) = 13 ↔ bt i = 13 := e' 13 (by decide)
    have x32 : nI (bt i) = 32 ↔ bt i = 32 := e' 32 (by decide)
    rw [F_X9_cut_7, h2, if_neg (show ¬ (400 : Int32) < nI k from nI_nlt (a := 400) hk400 (by decide)), y_byte h hi, x_b_s, h.2.2.1, if_pos (nI_lt hi (by omega)), if_neg (fun z => hb (Or.inl (x9.mp z))), if_neg (fun z => hb (Or.inr (Or.inl (x10.mp z)))), if_neg (fun z => hb (Or.inr (Or.inr (Or.inl (x13.mp z))))), if_neg (fun z => hb (Or.inr (Or.inr (Or.inr (x32.mp z)))))]
  by_cases hl : t_lt (bt i)
  · obtain ⟨r1, r2⟩ := e4 hl
    have hrun : ∀ k', k' < e - i → t_lt (bt (i + k')) := fun k' hk' => r1 (i + k') (by omega) (by omega)
    have bl : ∀ f, F_X9_cut_7 (f + 1) (nI i) μ = F_X9_cut_135 (F_X9_cut_7 f) (nI i) (nI (e - i)) (lN (n_vl bt i (if e - i ≤ 8 then e - i else 8))) (if e - i ≤ 8 then 1 else 3) μ := by
      intro f
      rw [base f, y_let _ σ μ ((c_let hbt σ).1 hl), x_b_s, if_neg (by decide)]
      exact y_word h (by omega) e2 r1 r2 (F_X9_cut_7 f) (e - i) x_fuel 0 (by omega) (by rw [x_fuel]; omega)
    have k179 : ∀ (f : Nat) (kd : Nat) (y : Int64), F_X9_cut_179 (F_X9_cut_7 f) (nI i) (nI (e - i)) y (nI kd) μ = F_X9_cut_7 f (nI e) (y_rw μ k kd i 0 y) := fun f kd y => by
      rw [F_X9_cut_179, y_token h2 (by omega), x_b_s, F_X9_cut_291, nI_add, show i + (e - i) = e by omega]
    have tok : F_X4_addToken (nI i) (nI e) σ = x_b (F_X4_addWord (nI i) (nI e) σ) (fun _ σ5 => some ((), σ5)) := by
      rw [F_X4_addToken, c_byte h hi, x_b_s, (c_let hbt σ).1 hl, x_b_s, if_neg (by decide)]
    by_cases q8 : e - i ≤ 8
    · have nm : F_X4_nameAt (nI i) (nI e) σ = some (lN (n_vl bt i (e - i)), σ) := by
        have := c_name h e2 r1 (e - i) x_fuel 0 (by omega) (by rw [x_fuel]; omega) (by omega)
        exact this
      have k36 : ∀ kd, F_X4_addWord_36 (nI i) (nI e) (nI kd) σ = some ((), c_rw σ k kd (lN (n_vl bt i (e - i))) i) := fun kd => by
        rw [F_X4_addWord_36, nm, x_b_s, c_addRow h1 (by omega), x_b_s]
      have aw : F_X4_addWord (nI i) (nI e) σ = x_b (F_X4_wordAt (nI i) (nI e) σ) (fun v1 σ1 => if v1 = (-1 : Int32) then F_X4_addWord_36 (nI i) (nI e) (30 : Int32) σ1 else F_X4_addWord_36 (nI i) (nI e) v1 σ1) := by
        rw [F_X4_addWord, pk_sub (by omega), if_pos (show nI (e - i) ≤ (8 : Int32) from nI_le (b := 8) q8 (by decide))]
      simp only [if_pos q8] at bl
      rcases c_word h e1 e2 q8 r1 with ⟨w, hw, hw2, hw3⟩ | ⟨hw2, hw3⟩
      · have hw7 : e - i ≤ 7 := by rw [hw2.1]; exact (n_wl_l w hw).1
        have hne : ¬ nI w = -1 := by
          intro z
          have := nI_pos (n := w) (by omega)
          rw [z] at this
          exact this (by decide)
        refine ⟨e, w, lN (n_vl bt i (e - i)), 0, lN (n_vl bt i (e - i)), e1, e2, Or.inl hw, by omega, e3, ?_, fun f => ?_, fun z => by omega, fun z => by omega⟩
        · rw [tok, aw, hw3, x_b_s, if_neg hne, k36, x_b_s]
        · rw [bl f, F_X9_cut_135, if_neg (show ¬ (7 : Int32) < nI (e - i) from nI_nlt (a := 7) hw7 (by decide))]
          have := (y_key (bt := bt) hk hw7 hrun (F_X9_cut_7 f) 25 x_fuel 0 1 (by omega) (by decide)).1 w hw hw2 (by omega)
          rw [show nI 0 = (0 : Int32) from rfl] at this
          rw [this, k179, n_tk, if_pos hw]
      · refine ⟨e, 30, lN (n_vl bt i (e - i)), 0, lN (n_vl bt i (e - i)), e1, e2, by unfold n_kd; omega, by decide, e3, ?_, fun f => ?_, fun z => by omega, fun _ => rfl⟩
        · rw [tok, aw, hw3, x_b_s, if_pos rfl, show (30 : Int32) = nI 30 from rfl, k36, x_b_s]
        · rw [bl f, F_X9_cut_135]
          by_cases q7 : e - i ≤ 7
          · rw [if_neg (show ¬ (7 : Int32) < nI (e - i) from nI_nlt (a := 7) q7 (by decide))]
            have := (y_key (bt := bt) hk q7 hrun (F_X9_cut_7 f) 25 x_fuel 0 1 (by omega) (by decide)).2 (fun w hw z => absurd z (hw2 w hw))
            rw [show nI 0 = (0 : Int32) from rfl] at this
            rw [this]
            exact k179 f 1 _
          · rw [if_pos (show (7 : Int32) < nI (e - i) from nI_lt (a := 7) (by omega) (by omega))]
            exact k179 f 1 _
    · simp only [if_neg q8] at bl
      refine ⟨e, 33, 0, 0, lN (n_vl bt i 8), e1, e2, by unfold n_kd; omega, by decide, e3, ?_, fun f => ?_, fun z => by omega, fun z => by omega⟩
      · rw [tok, F_X4_addWord, pk_sub (by omega), if_neg (show ¬ nI (e - i) ≤ (8 : Int32) from nI_ge (a := 8) (by omega) (by omega)), show (33 : Int32) = nI 33 from rfl, c_addRow h1 (by omega), x_b_s, x_b_s]
      · rw [bl f, F_X9_cut_135, if_pos (show (7 : Int32) < nI (e - i) from nI_lt (a := 7) (by omega) (by omega))]
        exact k179 f 3 _
  · by_cases hd : t_dg (bt i)
    · obtain ⟨r1, r2⟩ := e5 hd
      have bd : ∀ f, F_X9_cut_7 (f + 1) (nI i) μ = F_X9_cut_261 (F_X9_cut_7 f) (nI i) (nI (e - i)) (nI (n_vd bt i (if e - i ≤ 4 then e - i else 4))) (if e - i ≤ 4 then 2 else 3) μ := by
        intro f
        rw [base f, y_let _ σ μ ((c_let hbt σ).2 hl), x_b_s, if_pos rfl, y_dig _ σ μ ((c_dig hbt σ).1 hd), x_b_s, if_neg (by decide)]
        exact y_num h (by omega) e2 r1 r2 (F_X9_cut_7 f) (e - i) x_fuel 0 (by omega) (by rw [x_fuel]; omega)
      have k261 : ∀ (f kd : Nat) (v : Int32), F_X9_cut_261 (F_X9_cut_7 f) (nI i) (nI (e - i)) v (nI kd) μ = F_X9_cut_7 f (nI e) (y_rw μ k kd i v 0) := fun f kd v => by
        rw [F_X9_cut_261, y_token h2 (by omega), x_b_s, F_X9_cut_291, nI_add, show i + (e - i) = e by omega]
      obtain ⟨y, g1, g2⟩ := c_num h e2 r1 (e - i) x_fuel 0 0 (by omega) (by rw [x_fuel]; omega) (by omega)
      have gn : F_X4_numberAt (nI i) (nI e) σ = some (y, σ) := g1
      have k44 : ∀ kd, F_X4_addToken_44 (nI i) (nI e) (nI kd) σ = some ((), c_rw σ k kd y.toInt64 i) := fun kd => by
        rw [F_X4_addToken_44, gn, x_b_s, c_addRow h1 (by omega), x_b_s]
      have tok : F_X4_addToken (nI i) (nI e) σ = if (4 : Int32) < (nI e - nI i) then F_X4_addToken_44 (nI i) (nI e) 33 σ else F_X4_addToken_44 (nI i) (nI e) 31 σ := by
        rw [F_X4_addToken, c_byte h hi, x_b_s, (c_let hbt σ).2 hl, x_b_s, if_pos rfl, (c_dig hbt σ).1 hd, x_b_s, if_neg (by decide)]
      by_cases q4 : e - i ≤ 4
      · simp only [if_pos q4] at bd
        have yv : y = nI (n_vd bt i (e - i)) := g2 rfl
        have hv : n_vd bt i (e - i) ≤ 9999 := by
          have := n_vd_lt (bt := bt) (i := i) (e - i) (fun k' hk' => (r1 (i + k') (by omega) (by omega)).2)
          have h2 : 10 ^ (e - i) ≤ 10 ^ 4 := Nat.pow_le_pow_right (by decide) q4
          omega
        refine ⟨e, 31, y.toInt64, y, 0, e1, e2, by unfold n_kd; omega, by decide, e3, ?_, fun f => ?_, fun _ => ⟨n_vd bt i (e - i), hv, by rw [yv, nI_l (by omega)], yv⟩, fun z => by omega⟩
        · rw [tok, pk_sub (by omega), if_neg (show ¬ (4 : Int32) < nI (e - i) from nI_nlt (a := 4) q4 (by decide))]
          exact k44 31
        · rw [bd f, yv]; exact k261 f 2 _
      · simp only [if_neg q4] at bd
        refine ⟨e, 33, y.toInt64, nI (n_vd bt i 4), 0, e1, e2, by unfold n_kd; omega, by decide, e3, ?_, fun f => ?_, fun z => by omega, fun z => by omega⟩
        · rw [tok, pk_sub (by omega), if_pos (show (4 : Int32) < nI (e - i) from nI_lt (a := 4) (by omega) (by omega))]
          exact k44 33
        · rw [bd f]; exact k261 f 3 _
    · have ee := e6 hl hd
      subst ee
      refine ⟨i + 1, n_sg (bt i), 0, 0, 0, e1, e2, ?_, ?_, e3, c_sign h hi hl hd h1 (by omega), fun f => ?_, fun z => ?_, fun z => ?_⟩
      · unfold n_kd; rw [n_sg]; split <;> omega
      · rw [n_sg]; split <;> omega
      · have hb2 : ∃ x, F_X9_byteAt (nI i + 1) μ = some (x, μ) := by
          rw [nI_1]
          by_cases q : i + 1 < n
          · exact ⟨_, y_byte h q⟩
          · exact ⟨0, y_byte0 h (by omega) (by omega)⟩
        obtain ⟨x, hx⟩ := hb2
        rw [base f, y_let _ σ μ ((c_let hbt σ).2 hl), x_b_s, if_pos rfl, y_dig _ σ μ ((c_dig hbt σ).2 hd), x_b_s, if_pos rfl, hx, x_b_s, y_sign hbt h2 (by omega), x_b_s, F_X9_cut_291, nI_1]
      · exfalso; rw [n_sg] at z; split at z <;> omega
      · exfalso; rw [n_sg] at z; split at z <;> omega
end T3
