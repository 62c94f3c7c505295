/-! THE START: both stand alike -/
/-- the class's own text, told plainly -/
def c_qlf (σ τ : x_Hp) : Prop := (∀ a b, ¬ (a = 8 ∧ (b = 1 ∨ b = 3)) → ¬ (9 ≤ a ∧ a ≤ 12 ∧ ¬ (a = 10 ∧ b = 0)) → τ.1 a b = σ.1 a b) ∧ ∀ a b, τ.2 a b = σ.2 a b
def c_ql (i : Nat) (σ τ : x_Hp) : Prop := τ.1 8 1 = nI i ∧ τ.1 8 3 = nI i ∧ (∀ j, j ≤ i → τ.1 10 j = nI j) ∧ (∀ k, k < i → τ.1 9 k = n_pl k ∧ τ.1 11 k = nI k ∧ τ.1 12 k = nI 0) ∧ c_qlf σ τ
theorem c_ql_step {i : Nat} {σ τ : x_Hp} (hi : i < 7) (h : c_ql i σ τ) (K : Nat → Int32 → x_Hp → Option (Unit × x_Hp)) : ∃ ρ, x_b (F_X1_beginLaw 8 (nI i) τ) (fun _ σ3 => F_X1_begin_38 K 8 (nI i) (n_pl i) 8 σ3) = K 8 (nI (i + 1)) ρ ∧ c_ql (i + 1) σ ρ := by
  obtain ⟨h1, h2, h3, h4, h5, h6⟩ := h
  refine ⟨x_pI (x_pI (x_pI (x_pI (x_pI (x_pI τ 11 i (nI i)) 12 i 0) 9 i (n_pl i)) 8 1 (nI (i + 1))) 8 3 (nI (i + 1))) 10 (i + 1) (nI (i + 1)), ?_, ?_⟩
  · have e1 : (x_pI (x_pI τ 11 i (nI i)) 12 i 0).1 8 1 = nI i := by rw [x_pI_1, if_neg (by omega), x_pI_1, if_neg (by omega)]; exact h1
    have e2 : (x_pI (x_pI (x_pI τ 11 i (nI i)) 12 i 0) 9 i (n_pl i)).1 8 1 = nI i := by rw [x_pI_1, if_neg (by omega)]; exact e1
    have e3 : (x_pI (x_pI (x_pI (x_pI τ 11 i (nI i)) 12 i 0) 9 i (n_pl i)) 8 1 (nI (i + 1))).1 8 3 = nI i := by rw [x_pI_1, if_neg (by omega), x_pI_1, if_neg (by omega), x_pI_1, if_neg (by omega), x_pI_1, if_neg (by omega)]; exact h2
    have e4 : (x_pI (x_pI (x_pI (x_pI (x_pI τ 11 i (nI i)) 12 i 0) 9 i (n_pl i)) 8 1 (nI (i + 1))) 8 3 (nI (i + 1))).1 8 3 = nI (i + 1) := by rw [x_pI_1, if_pos ⟨rfl, rfl⟩]
    have e5 : (x_pI (x_pI (x_pI (x_pI (x_pI τ 11 i (nI i)) 12 i 0) 9 i (n_pl i)) 8 1 (nI (i + 1))) 8 3 (nI (i + 1))).1 8 1 = nI (i + 1) := by rw [x_pI_1, if_neg (by omega), x_pI_1, if_pos ⟨rfl, rfl⟩]
    rw [F_X1_beginLaw, rfX_8_4, rfX_8_5, h2, e_put, x_pT_nI _ _ (by rw [lnX_11]; exact hi), x_b_s, e_put, x_pT_nI _ _ (by rw [lnX_12]; exact hi), x_b_s, x_b_s, F_X1_begin_38, F_X1_addStep, rfX_8_0, e1, e_put, x_pT_nI _ _ (by rw [lnX_9]; omega), x_b_s, e2, nI_1, x_pt_s, x_b_s, F_X1_endPiece, e3, nI_1, x_pt_s, rfX_8_2, e4, e5, e_put, x_pT_nI _ _ (by rw [lnX_10]; omega), x_b_s, x_b_s]
  · have e : ∀ a b, ¬ (a = 11 ∧ b = i) → ¬ (a = 12 ∧ b = i) → ¬ (a = 9 ∧ b = i) → ¬ (a = 8 ∧ b = 1) → ¬ (a = 8 ∧ b = 3) → ¬ (a = 10 ∧ b = i + 1) → (x_pI (x_pI (x_pI (x_pI (x_pI (x_pI τ 11 i (nI i)) 12 i 0) 9 i (n_pl i)) 8 1 (nI (i + 1))) 8 3 (nI (i + 1))) 10 (i + 1) (nI (i + 1))).1 a b = τ.1 a b := fun a b q1 q2 q3 q4 q5 q6 => by
      rw [x_pI_1, if_neg q6, x_pI_1, if_neg q5, x_pI_1, if_neg q4, x_pI_1, if_neg q3, x_pI_1, if_neg q2, x_pI_1, if_neg q1]
    refine ⟨?_, ?_, fun j hj => ?_, fun k hk => ?_, fun a b q1 q2 => ?_, fun a b => ?_⟩
    · rw [x_pI_1, if_neg (by omega), x_pI_1, if_neg (by omega), x_pI_1, if_pos ⟨rfl, rfl⟩]
    · rw [x_pI_1, if_neg (by omega), x_pI_1, if_pos ⟨rfl, rfl⟩]
    · by_cases q : j = i + 1
      · rw [q, x_pI_1, if_pos ⟨rfl, rfl⟩]
      · rw [e _ _ (by omega) (by omega) (by omega) (by omega) (by omega) (by omega)]; exact h3 j (by omega)
    · by_cases q : k = i
      · subst q
        refine ⟨?_, ?_, ?_⟩
        · rw [x_pI_1, if_neg (by omega), x_pI_1, if_neg (by omega), x_pI_1, if_neg (by omega), x_pI_1, if_pos ⟨rfl, rfl⟩]
        · rw [x_pI_1, if_neg (by omega), x_pI_1, if_neg (by omega), x_pI_1, if_neg (by omega), x_pI_1, if_neg (by omega), x_pI_1, if_neg (by omega), x_pI_1, if_pos ⟨rfl, rfl⟩]
        · rw [x_pI_1, if_neg (by omega), x_pI_1, if_neg (by omega), x_pI_1, if_neg (by omega), x_pI_1, if_neg (by omega), x_pI_1, if_pos ⟨rfl, rfl⟩]; rfl
      · obtain ⟨u1, u2, u3⟩ := h4 k (by omega)
        refine ⟨?_, ?_, ?_⟩
        · rw [e _ _ (by omega) (by omega) (by omega) (by omega) (by omega) (by omega)]; exact u1
        · rw [e _ _ (by omega) (by omega) (by omega) (by omega) (by omega) (by omega)]; exact u2
        · rw [e _ _ (by omega) (by omega) (by omega) (by omega) (by omega) (by omega)]; exact u3
    · rw [e _ _ (by omega) (by omega) (by omega) (by omega) (by omega) (by omega)]; exact h5 a b q1 q2
    · rw [x_pI_2, x_pI_2, x_pI_2, x_pI_2, x_pI_2, x_pI_2]; exact h6 a b
theorem c_ql_loop {σ : x_Hp} : ∀ (d i f : Nat) (τ : x_Hp), i + d = 7 → d < f → c_ql i σ τ → ∃ ρ, F_X1_begin_12 f 8 (nI i) τ = some ((), ρ) ∧ c_ql 7 σ ρ
  | 0, i, f, τ, hi, hf, h => by
    obtain ⟨f, rfl⟩ := Nat.exists_eq_succ_of_ne_zero (show f ≠ 0 by omega)
    have : i = 7 := by omega
    subst this
    exact ⟨τ, by rw [F_X1_begin_12, if_pos (show (7 : Int32) ≤ nI 7 by decide)], h⟩
  | d + 1, i, f, τ, hi, hf, h => by
    obtain ⟨f, rfl⟩ := Nat.exists_eq_succ_of_ne_zero (show f ≠ 0 by omega)
    obtain ⟨ρ, r1, r2⟩ := c_ql_step (by omega) h (F_X1_begin_12 f)
    obtain ⟨ρ', s1, s2⟩ := c_ql_loop d (i + 1) f ρ (by omega) (by omega) r2
    refine ⟨ρ', ?_, s2⟩
    rw [F_X1_begin_12, if_neg (show ¬ (7 : Int32) ≤ nI i from nI_ge (b := 7) (by omega) (by decide))]
    rw [← s1, ← r1]
    congr 1
    funext _ σ3
    by_cases q0 : i = 0
    · subst q0; rw [if_pos (show nI 0 = (0 : Int32) from rfl)]; rfl
    rw [if_neg (show ¬ nI i = 0 from fun w => q0 ((nI_eq (b := 0) (by omega) (by decide)).mp w))]
    by_cases q1 : i = 1
    · subst q1; rw [if_pos (show nI 1 = (1 : Int32) from rfl)]; rfl
    rw [if_neg (show ¬ nI i = (1 : Int32) from fun w => q1 ((nI_eq (b := 1) (by omega) (by decide)).mp w)), n_pl, if_neg (by omega)]
/-- the class's text, told anew -/
def c_qlain (σ τ : x_Hp) : Prop := (∀ k, k < 4 → τ.1 1 k = 0) ∧ τ.1 1 4 = 20 ∧ τ.1 1 5 = 30 ∧ τ.1 1 6 = 0 ∧ τ.1 1 7 = 0 ∧ τ.1 8 1 = nI 7 ∧ τ.1 8 3 = nI 7 ∧ (∀ j, j ≤ 7 → τ.1 10 j = nI j) ∧ (∀ k, k < 7 → τ.1 9 k = n_pl k ∧ τ.1 11 k = nI k ∧ τ.1 12 k = nI 0) ∧ (∀ a b, a ≠ 1 → ¬ (a = 8 ∧ (b = 1 ∨ b = 3)) → ¬ (9 ≤ a ∧ a ≤ 12 ∧ ¬ (a = 10 ∧ b = 0)) → τ.1 a b = σ.1 a b) ∧ ∀ a b, τ.2 a b = σ.2 a b
theorem c_qegin {σ : x_Hp} (h30 : σ.1 10 0 = 0) : ∃ τ, F_X6_begin 1 σ = some ((), τ) ∧ c_qlain σ τ := by
  have e : ∀ a b, a ≠ 1 → ¬ (a = 8 ∧ (b = 1 ∨ b = 3)) → (x_pI (x_pI (x_pI (x_pI (x_pI (x_pI (x_pI (x_pI (x_pI (x_pI σ 1 0 0) 1 1 0) 1 2 0) 1 3 0) 1 4 20) 1 5 30) 1 6 0) 1 7 0) 8 1 0) 8 3 0).1 a b = σ.1 a b := fun a b q1 q2 => by
    rw [x_pI_1, if_neg (by omega), x_pI_1, if_neg (by omega), x_pI_1, if_neg (by omega), x_pI_1, if_neg (by omega), x_pI_1, if_neg (by omega), x_pI_1, if_neg (by omega), x_pI_1, if_neg (by omega), x_pI_1, if_neg (by omega), x_pI_1, if_neg (by omega), x_pI_1, if_neg (by omega)]
  have h0 : c_ql 0 (x_pI (x_pI (x_pI (x_pI (x_pI (x_pI (x_pI (x_pI (x_pI (x_pI σ 1 0 0) 1 1 0) 1 2 0) 1 3 0) 1 4 20) 1 5 30) 1 6 0) 1 7 0) 8 1 0) 8 3 0) (x_pI (x_pI (x_pI (x_pI (x_pI (x_pI (x_pI (x_pI (x_pI (x_pI σ 1 0 0) 1 1 0) 1 2 0) 1 3 0) 1 4 20) 1 5 30) 1 6 0) 1 7 0) 8 1 0) 8 3 0) := by
    refine ⟨?_, ?_, fun j hj => ?_, fun k hk => by omega, fun _ _ _ _ => rfl, fun _ _ => rfl⟩
    · rw [x_pI_1, if_neg (by omega), x_pI_1, if_pos ⟨rfl, rfl⟩]; rfl
    · rw [x_pI_1, if_pos ⟨rfl, rfl⟩]; rfl
    · rw [show j = 0 by omega, e _ _ (by omega) (by omega)]; exact h30
  obtain ⟨ρ, r1, ⟨s1, s2, s3, s4, s5, s6⟩⟩ := c_ql_loop 7 0 x_fuel _ rfl (by rw [x_fuel]; omega) h0
  refine ⟨ρ, ?_, fun k hk => ?_, ?_, ?_, ?_, ?_, s1, s2, s3, s4, fun a b q1 q2 q3 => ?_, fun a b => ?_⟩
  · have r1' : F_X1_begin_12 x_fuel 8 0 (x_pI (x_pI (x_pI (x_pI (x_pI (x_pI (x_pI (x_pI (x_pI (x_pI σ 1 0 0) 1 1 0) 1 2 0) 1 3 0) 1 4 20) 1 5 30) 1 6 0) 1 7 0) 8 1 0) 8 3 0) = some ((), ρ) := r1
    rw [F_X6_begin, F_X6_tellBaby, x_pt_s, x_pt_s, x_pt_s, x_pt_s, x_b_s, x_pt_s, x_pt_s, x_pt_s, x_pt_s, rfX_1_14, F_X1_begin, x_pt_s, x_pt_s, r1', x_b_s]
  · rw [s5 _ _ (by omega) (by omega), x_pI_1, if_neg (by omega), x_pI_1, if_neg (by omega), x_pI_1, if_neg (by omega), x_pI_1, if_neg (by omega), x_pI_1, if_neg (by omega), x_pI_1, if_neg (by omega)]
    have : k = 0 ∨ k = 1 ∨ k = 2 ∨ k = 3 := by omega
    rcases this with rfl | rfl | rfl | rfl <;> rfl
  · rw [s5 _ _ (by omega) (by omega)]; rfl
  · rw [s5 _ _ (by omega) (by omega)]; rfl
  · rw [s5 _ _ (by omega) (by omega)]; rfl
  · rw [s5 _ _ (by omega) (by omega)]; rfl
  · rw [s5 _ _ q2 q3]; exact e _ _ q1 q2
  · rw [s6]; rfl
theorem z_putk (μ1 : x_Hp) : ∀ r, r < 25 → (zk_put μ1).2 7 r = lN (n_kv (n_wr.getD r 0)) := by
  intro r hr
  rw [← zk_keys r hr]
  have : r = 0 ∨ r = 1 ∨ r = 2 ∨ r = 3 ∨ r = 4 ∨ r = 5 ∨ r = 6 ∨ r = 7 ∨ r = 8 ∨ r = 9 ∨ r = 10 ∨ r = 11 ∨ r = 12 ∨ r = 13 ∨ r = 14 ∨ r = 15 ∨ r = 16 ∨ r = 17 ∨ r = 18 ∨ r = 19 ∨ r = 20 ∨ r = 21 ∨ r = 22 ∨ r = 23 ∨ r = 24 := by omega
  rcases this with rfl | rfl | rfl | rfl | rfl | rfl | rfl | rfl | rfl | rfl | rfl | rfl | rfl | rfl | rfl | rfl | rfl | rfl | rfl | rfl | rfl | rfl | rfl | rfl | rfl <;> rfl
theorem zk_pL1 (σ : x_Hp) (o k : Nat) (v : Int64) : (x_pL σ o k v).1 = σ.1 := rfl
theorem zk_put1 (μ1 : x_Hp) : (zk_put μ1).1 = μ1.1 := by
  unfold zk_put
  simp only [zk_pL1]
theorem z_start : ∃ τ1 τ2 μ1 μ2 μ3, F_X6_begin 1 zs_X = some ((), τ1) ∧ F_X0_begin 34 35 τ1 = some ((), τ2) ∧ F_X9_plain (0 : Int32) zs_M = some ((), μ1) ∧ F_X9_begins (zk_put μ1) = some ((), μ2) ∧ F_X9_keepsRow μ2 = some ((), μ3) ∧ r_full 0 τ2 μ3 := by
  obtain ⟨τ1, a1, b1, b2, b3, b4, b5, b6, b7, b8, b9, b10, b11⟩ := c_qegin (σ := zs_X) (by decide +kernel)
  obtain ⟨μ1, p1, q1, q2, q3, q4, q5, q6, q7, q8⟩ := y_plain_run (sd := 0) (by decide) zs_M
  have hput : (zk_put μ1).1 = μ1.1 := zk_put1 μ1
  have y0 : ∀ b, μ1.1 0 b = zs_M.1 0 b := fun b => q7 0 b (by omega) (by omega) (by omega)
  have tl := p_TL0 (sd := 0) (σ := (fun a b => τ1.1 (a - 20) b, τ1.2)) (μ := zk_put μ1) b6 b7 b8 b9 (by rw [hput, y0]; decide +kernel) (by rw [hput, y0]; decide +kernel) (by rw [hput, y0]; decide +kernel) ⟨0, by omega, by rw [hput, y0]; decide +kernel⟩ (fun k hk => by rw [hput]; exact q6 k hk)
  obtain ⟨-, -, -, -, -, -, -, -, -, -, -, c1, c2⟩ := tl
  have hTx : x_Tx τ1 (τ1.1, n_L0) := ⟨fun b => rfl, fun a b _ _ => rfl, c_Lw (S := 7) (N := 7) (by omega) (by omega) (fun j _ => rfl) (fun j _ => rfl) (fun j _ => rfl) (fun j _ => rfl) c1⟩
  have hLw : y_Lw (zk_put μ1) 0 n_L0 := y_L.Lw (by omega) (by omega) (by omega) c2
  generalize hT : ((τ1.1, n_L0) : x_TT) = T at hTx
  have t1 : ∀ a b, T.1 a b = τ1.1 a b := fun a b => by rw [← hT]
  have hN : T.1 1 7 = nI 0 := by rw [t1, b5]; rfl
  have hTy : y_Tx (zk_put μ1) T 0 0 := by
    refine ⟨by omega, by omega, by rw [hput, y0]; decide +kernel, hN, by rw [hput, q2]; rfl, fun a ha => absurd ha (by omega), ?_, ?_, ?_, fun k hk => ?_, by rw [← hT]; exact hLw⟩
    · rw [hput, q3, t1, b2]
    · rw [hput, q4, t1, b3]
    · rw [hput, q5, t1, b4]
    · have := q1 k hk
      rw [hput, t1, b1 k hk, ← this]
  have hB : m_TB T 0 := ⟨⟨20, by omega, by rw [t1, b2]; rfl⟩, ⟨30, by omega, by rw [t1, b3]; rfl⟩, fun k hk => ⟨0, by omega, by rw [t1, b1 k hk]; rfl⟩, fun a ha => absurd ha (by omega)⟩
  have eb := e_begin x_St35 hTx (x_gS τ1 35) (x_sc τ1)
  rw [← x_hp_of τ1 x_St35] at eb
  have yb := y_begins hTy
  have sm : y_sm (zk_put μ1) (z_hp (y_m0 (zk_put μ1) 0) (m_beg T) (y_sc (zk_put μ1))) := (y_m0.sm _ _).tr (y_sm.hp _ _ _)
  have lg : ∀ a b, (z_hp (y_m0 (zk_put μ1) 0) (m_beg T) (y_sc (zk_put μ1))).2 a b = (zk_put μ1).2 a b := fun a b => rfl
  have r32 : ∀ k, k < 60 → (z_hp (y_m0 (zk_put μ1) 0) (m_beg T) (y_sc (zk_put μ1))).1 32 k = y_rv (m_beg T) k := fun k hk => by rw [z_hp, y_row _ _ _ hk]
  generalize z_hp (y_m0 (zk_put μ1) 0) (m_beg T) (y_sc (zk_put μ1)) = μ2 at yb sm lg r32
  refine ⟨τ1, _, μ1, μ2, _, a1, eb, p1, yb, y_keepsRow μ2, ?_, fun r hr => ?_, 0, by omega, ?_⟩
  · have x2 : ∀ a b, a ≠ 35 → a ≠ 36 → a ≠ 13 → a ≠ 8 → (x_hp τ1 35 (m_beg T) (x_sc τ1)).1 a b = τ1.1 a b := fun a b q1 q2 q3 q4 => x_hp_oth _ _ _ _ _ q1 q2 q3 q4
    have x3 : ∀ a b, a ≠ 35 → a ≠ 36 → a ≠ 13 → a ≠ 8 → a ≠ 1 → ¬ (9 ≤ a ∧ a ≤ 12) → (x_hp τ1 35 (m_beg T) (x_sc τ1)).1 a b = zs_X.1 a b := fun a b q1 q2 q3 q4 q5 q6 => by
      rw [x2 a b q1 q2 q3 q4, b10 a b q5 (by omega) (by omega)]
    have g2 : e62 (x_gS (x_hp τ1 35 (m_beg T) (x_sc τ1)) 35) (m_beg T) := gS_hp x_St35 _ _ _
    have y2 : ∀ a b, ¬ y_Sb a b → a ≠ 31 → (y_fl μ2 31 0 60 (μ2.1 32) 0).1 a b = μ1.1 a b := fun a b n1 n2 => by
      rw [y_fl_o _ _ _ _ _ (by omega), sm a b n1, hput]
    have y3 : ∀ b, ¬ y_Sb 0 b → (y_fl μ2 31 0 60 (μ2.1 32) 0).1 0 b = zs_M.1 0 b := fun b n1 => by rw [y2 _ _ n1 (by omega), y0]
    have y4 : ∀ k, k < 60 → (y_fl μ2 31 0 60 (μ2.1 32) 0).1 31 k = y_rv (m_beg T) k := fun k hk => by
      have := y_fl_in μ2 31 0 60 (μ2.1 32) hk
      rw [Nat.zero_add] at this
      rw [this, r32 k hk]
    refine ⟨T, 0, 0, _, 0, r_V.mk (hTx.ag (fun a b q => x2 a b (by omega) (by omega) (by omega) (by omega))) (hTy.agt ⟨by rw [y2 _ _ (by unfold y_Sb; omega) (by omega), hput], fun a b n1 n2 => by rw [y2 a b (by unfold y_Sb; omega) (by omega), hput]⟩) hB g2 (m_J.beg hN (by omega) hB) y4, ?_, by omega, fun s hs => Or.inl ?_, ?_, ?_, Or.inl ?_⟩
    · refine ⟨0, 0, by omega, by omega, ?_, ?_, ?_, ?_, fun j hj => absurd hj (by omega)⟩
      · rw [x3 _ _ (by omega) (by omega) (by omega) (by omega) (by omega) (by omega)]; decide +kernel
      · rw [x3 _ _ (by omega) (by omega) (by omega) (by omega) (by omega) (by omega)]; decide +kernel
      · rw [x3 _ _ (by omega) (by omega) (by omega) (by omega) (by omega) (by omega)]; decide +kernel
      · rw [y3 _ (by unfold y_Sb; omega)]; decide +kernel
    · rw [x3 _ _ (by omega) (by omega) (by omega) (by omega) (by omega) (by omega), y2 _ _ (by unfold y_Sb; omega) (by omega), q7 43 s (by omega) (by omega) (by omega)]
      have : s = 0 ∨ s = 1 ∨ s = 2 := by omega
      rcases this with rfl | rfl | rfl <;> exact ⟨by decide +kernel, by decide +kernel⟩
    · refine ⟨0, by omega, ?_, ?_, fun j hj => absurd hj (by omega)⟩
      · rw [x3 _ _ (by omega) (by omega) (by omega) (by omega) (by omega) (by omega)]; decide +kernel
      · rw [y3 _ (by unfold y_Sb; omega)]; decide +kernel
    · refine ⟨⟨0, by omega, ?_, ?_, ?_, fun j hj => absurd hj (by omega)⟩, ?_⟩
      · rw [x3 _ _ (by omega) (by omega) (by omega) (by omega) (by omega) (by omega)]; decide +kernel
      · rw [y3 _ (by unfold y_Sb; omega)]; decide +kernel
      · rw [x3 _ _ (by omega) (by omega) (by omega) (by omega) (by omega) (by omega), y3 _ (by unfold y_Sb; omega)]; decide +kernel
      · rw [x3 _ _ (by omega) (by omega) (by omega) (by omega) (by omega) (by omega)]; decide +kernel
    · rw [x3 _ _ (by omega) (by omega) (by omega) (by omega) (by omega) (by omega)]; decide +kernel
  · show μ2.2 7 r = _
    rw [lg]
    exact z_putk μ1 r hr
  · rw [y_fl_o _ _ _ _ _ (by omega), sm 0 44 (by unfold y_Sb; omega), hput, y0]
    decide +kernel
