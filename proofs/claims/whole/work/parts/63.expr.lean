/-! READING: an expression: what waits, what is laid down -/
def w_at : List Nat → Nat → Nat
  | [], _ => 0
  | c :: ws, j => if j = ws.length then c else w_at ws j
def g_ops : List Nat → Nat
  | [] => 0
  | c :: ws => (if c = 40 then 0 else 1) + g_ops ws
def g_par : List Nat → Nat
  | [] => 0
  | c :: ws => (if c = 40 then 1 else 0) + g_par ws
def g_wk (c : Nat) : Prop := c = 43 ∨ c = 45
def g_st (c : Nat) : Prop := c = 42 ∨ c = 47
def g_sh : List Nat → Prop
  | [] => True
  | c :: ws => g_sh ws ∧ (c = 40 ∨ (g_wk c ∧ ws.headD 40 = 40) ∨ (g_st c ∧ (ws.headD 40 = 40 ∨ g_wk (ws.headD 40))))
def g_e (c : Nat) : Nat := if c = 40 then 0 else if c = 43 ∨ c = 45 then 1 else 2
theorem g_e_le (c : Nat) : g_e c ≤ 2 := by unfold g_e; split; omega; split <;> omega
theorem g_cnt : ∀ ws, g_sh ws → g_ops ws ≤ 2 * g_par ws + g_e (ws.headD 40)
  | [], _ => by simp [g_ops]
  | c :: ws, h => by
    have ih := g_cnt ws h.1
    have le := g_e_le (ws.headD 40)
    rcases h.2 with q | ⟨q1, q2⟩ | ⟨q1, q2⟩
    · subst q
      simp only [g_ops, g_par, if_true, List.headD_cons]
      omega
    · rw [q2] at ih
      have c40 : c ≠ 40 := by unfold g_wk at q1; omega
      have e1 : g_e c = 1 := by unfold g_e g_wk at *; rw [if_neg c40, if_pos q1]
      have e0 : g_e 40 = 0 := rfl
      simp only [g_ops, g_par, if_neg c40, List.headD_cons, e1]
      omega
    · have le1 : g_e (ws.headD 40) ≤ 1 := by
        rcases q2 with q2 | q2
        · rw [q2]; decide
        · unfold g_e; split; omega; rw [if_pos (show ws.headD 40 = 43 ∨ ws.headD 40 = 45 from q2)]; omega
      have c40 : c ≠ 40 := by unfold g_st at q1; omega
      have e2 : g_e c = 2 := by unfold g_e g_st at *; rw [if_neg c40, if_neg (by omega)]
      simp only [g_ops, g_par, if_neg c40, List.headD_cons, e2]
      omega
theorem g_len : ∀ ws : List Nat, ws.length = g_ops ws + g_par ws
  | [] => rfl
  | c :: ws => by
    have := g_len ws
    simp only [g_ops, g_par, List.length_cons]
    split <;> omega
theorem g_max {ws : List Nat} (h : g_sh ws) (h6 : g_par ws ≤ 6) : g_ops ws ≤ 14 ∧ ws.length ≤ 20 := by
  have a := g_cnt ws h
  have b := g_len ws
  have := g_e_le (ws.headD 40)
  omega
theorem m_dep_snoc (x : Int32) : ∀ (cs : List Int32) (d D : Nat), m_dep cs d = some D → m_dep (cs ++ [x]) d = m_dep [x] D
  | [], d, D, h => by simp only [m_dep, Option.some.injEq] at h; rw [← h]; rfl
  | c :: cs, d, D, h => by
    rw [List.cons_append, m_dep]
    rw [m_dep] at h
    by_cases q : c < 20000
    · rw [if_pos q] at h ⊢
      by_cases q2 : d < 20
      · rw [if_pos q2] at h ⊢; exact m_dep_snoc x cs _ _ h
      · rw [if_neg q2] at h; cases h
    · rw [if_neg q] at h ⊢
      by_cases q2 : 2 ≤ d
      · rw [if_pos q2] at h ⊢; exact m_dep_snoc x cs _ _ h
      · rw [if_neg q2] at h; cases h
theorem l_snoc (x : Int32) : ∀ (cs : List Int32) (i : Nat), (i < cs.length → (cs ++ [x]).getD i 0 = cs.getD i 0) ∧ (i = cs.length → (cs ++ [x]).getD i 0 = x)
  | [], i => ⟨fun h => absurd h (by simp), fun h => by subst h; rfl⟩
  | c :: cs, 0 => ⟨fun _ => rfl, fun h => absurd h (by simp)⟩
  | c :: cs, i + 1 => by
    have := l_snoc x cs i
    simp only [List.cons_append, List.getD_cons_succ, List.length_cons]
    exact ⟨fun h => this.1 (by omega), fun h => this.2 (by omega)⟩
/-- what both have laid down and what waits -/
def p_E (S C : Nat) (cs : List Int32) (ws : List Nat) (σ μ : x_Hp) : Prop := σ.1 28 1 = nI (S + cs.length) ∧ (∀ i, i < cs.length → σ.1 29 (S + i) = cs.getD i 0) ∧ μ.1 0 40 = nI (C + cs.length) ∧ (∀ i, i < cs.length → y_tok (μ.1 26 (C + i)) (μ.1 27 (C + i)) (cs.getD i 0)) ∧ σ.1 14 9 = nI ws.length ∧ (∀ j, j < ws.length → σ.1 20 j = nI (w_at ws j)) ∧ μ.1 0 44 = nI ws.length ∧ ∀ j, j < ws.length → μ.1 28 j = nI (n_tk (w_at ws j))
def c_xf (S : Nat) (σ τ : x_Hp) : Prop := (∀ a b, ¬ (a = 14 ∧ (b = 6 ∨ b = 9)) → a ≠ 19 → a ≠ 20 → ¬ (a = 28 ∧ b = 1) → ¬ (a = 29 ∧ S ≤ b) → τ.1 a b = σ.1 a b) ∧ ∀ a b, τ.2 a b = σ.2 a b
def y_xf (C : Nat) (μ τ : x_Hp) : Prop := (∀ a b, ¬ (a = 0 ∧ ((11 ≤ b ∧ b ≤ 12) ∨ b = 40 ∨ b = 44)) → a ≠ 28 → ¬ (26 ≤ a ∧ a ≤ 27 ∧ C ≤ b) → τ.1 a b = μ.1 a b) ∧ ∀ a b, τ.2 a b = μ.2 a b
theorem c_xf.same (S : Nat) (σ : x_Hp) : c_xf S σ σ := ⟨fun _ _ _ _ _ _ _ => rfl, fun _ _ => rfl⟩
theorem y_xf.same (S : Nat) (σ : x_Hp) : y_xf S σ σ := ⟨fun _ _ _ _ _ => rfl, fun _ _ => rfl⟩
theorem c_xf.tr {S : Nat} {σ τ ρ : x_Hp} (h : c_xf S σ τ) (g : c_xf S τ ρ) : c_xf S σ ρ := ⟨fun a b p q r s t => (g.1 a b p q r s t).trans (h.1 a b p q r s t), fun a b => (g.2 a b).trans (h.2 a b)⟩
theorem y_xf.tr {S : Nat} {σ τ ρ : x_Hp} (h : y_xf S σ τ) (g : y_xf S τ ρ) : y_xf S σ ρ := ⟨fun a b p q r => (g.1 a b p q r).trans (h.1 a b p q r), fun a b => (g.2 a b).trans (h.2 a b)⟩
theorem c_xf.pI {S : Nat} {ρ σ : x_Hp} (h : c_xf S ρ σ) {a b : Nat} (q : (a = 14 ∧ (b = 6 ∨ b = 9)) ∨ a = 19 ∨ a = 20 ∨ (a = 28 ∧ b = 1) ∨ (a = 29 ∧ S ≤ b)) (x : Int32) : c_xf S ρ (x_pI σ a b x) := ⟨fun c d z1 z2 z3 z4 z5 => by rw [x_pI_1, if_neg (fun w : c = a ∧ d = b => by obtain ⟨rfl, rfl⟩ := w; omega)]; exact h.1 c d z1 z2 z3 z4 z5, h.2⟩
theorem y_xf.pI {S : Nat} {ρ σ : x_Hp} (h : y_xf S ρ σ) {a b : Nat} (q : (a = 0 ∧ ((11 ≤ b ∧ b ≤ 12) ∨ b = 40 ∨ b = 44)) ∨ a = 28 ∨ (26 ≤ a ∧ a ≤ 27 ∧ S ≤ b)) (x : Int32) : y_xf S ρ (x_pI σ a b x) := ⟨fun c d z1 z2 z3 => by rw [x_pI_1, if_neg (fun w : c = a ∧ d = b => by obtain ⟨rfl, rfl⟩ := w; omega)]; exact h.1 c d z1 z2 z3, h.2⟩
section EX
variable {S C : Nat} {cs : List Int32} {ws : List Nat} {σ μ : x_Hp}
theorem p_E.emit (h : p_E S C cs ws σ μ) (h1 : S + cs.length < 420) (h2 : C + cs.length < 840) {k i x : Int32} (hx : y_tok k i x) : F_X1_addStep 28 x σ = some ((), x_pI (x_pI σ 29 (S + cs.length) x) 28 1 (nI (S + cs.length + 1))) ∧ F_X9_emit k i μ = some ((), x_pI (x_pI (x_pI μ 26 (C + cs.length) k) 27 (C + cs.length) i) 0 40 (nI (C + cs.length + 1))) ∧ p_E S C (cs ++ [x]) ws (x_pI (x_pI σ 29 (S + cs.length) x) 28 1 (nI (S + cs.length + 1))) (x_pI (x_pI (x_pI μ 26 (C + cs.length) k) 27 (C + cs.length) i) 0 40 (nI (C + cs.length + 1))) := by
  obtain ⟨a1, a2, a3, a4, a5, a6, a7, a8⟩ := h
  have hi : x_inb (nI (C + cs.length)) 840 = true := x_inb_nI h2 (by decide)
  have r1 : (x_pI μ 26 (C + cs.length) k).1 0 40 = nI (C + cs.length) := by rw [x_pI_1, if_neg (by omega)]; exact a3
  have r2 : (x_pI (x_pI μ 26 (C + cs.length) k) 27 (C + cs.length) i).1 0 40 = nI (C + cs.length) := by rw [x_pI_1, if_neg (by omega)]; exact r1
  refine ⟨?_, ?_, ?_, fun j hj => ?_, ?_, fun j hj => ?_, ?_, fun j hj => ?_, ?_, fun j hj => ?_⟩
  · rw [F_X1_addStep, a1, show x_rf TX 28 0 = 29 by decide +kernel, e_put, x_b_s, x_pT_nI _ _ (by rw [lnX_29]; exact h1), x_pI_1, if_neg (by omega), a1, nI_1, x_pt_s]
  · rw [F_X9_emit, a3, x_gd_t hi, x_pt_s, x_ix_nI (by omega), r1, x_gd_t hi, x_pt_s, x_ix_nI (by omega), r2, nI_1, x_pt_s]
  · rw [x_pI_1, if_pos ⟨rfl, rfl⟩, List.length_append]; rfl
  · rw [x_pI_1, if_neg (by omega), x_pI_1]
    rw [List.length_append] at hj
    by_cases q : j = cs.length
    · rw [if_pos (by omega), (l_snoc x cs j).2 q]
    · rw [if_neg (by omega), (l_snoc x cs j).1 (by simp at hj; omega)]; exact a2 j (by simp at hj; omega)
  · rw [x_pI_1, if_pos ⟨rfl, rfl⟩, List.length_append]; rfl
  · rw [List.length_append] at hj
    have e26 : ∀ z, (x_pI (x_pI (x_pI μ 26 (C + cs.length) k) 27 (C + cs.length) i) 0 40 (nI (C + cs.length + 1))).1 26 z = if z = C + cs.length then k else μ.1 26 z := fun z => by
      rw [x_pI_1, if_neg (by omega), x_pI_1, if_neg (by omega), x_pI_1]
      by_cases w : z = C + cs.length
      · rw [if_pos ⟨rfl, w⟩, if_pos w]
      · rw [if_neg (fun u => w u.2), if_neg w]
    have e27 : ∀ z, (x_pI (x_pI (x_pI μ 26 (C + cs.length) k) 27 (C + cs.length) i) 0 40 (nI (C + cs.length + 1))).1 27 z = if z = C + cs.length then i else μ.1 27 z := fun z => by
      rw [x_pI_1, if_neg (by omega), x_pI_1]
      by_cases w : z = C + cs.length
      · rw [if_pos ⟨rfl, w⟩, if_pos w]
      · rw [if_neg (fun u => w u.2), if_neg w, x_pI_1, if_neg (by omega)]
    rw [e26, e27]
    by_cases q : j = cs.length
    · rw [if_pos (by omega), if_pos (by omega), (l_snoc x cs j).2 q]; exact hx
    · rw [if_neg (by omega), if_neg (by omega), (l_snoc x cs j).1 (by simp at hj; omega)]; exact a4 j (by simp at hj; omega)
  · rw [x_pI_1, if_neg (by omega), x_pI_1, if_neg (by omega)]; exact a5
  · rw [x_pI_1, if_neg (by omega), x_pI_1, if_neg (by omega)]; exact a6 j hj
  · rw [x_pI_1, if_neg (by omega), x_pI_1, if_neg (by omega), x_pI_1, if_neg (by omega)]; exact a7
  · rw [x_pI_1, if_neg (by omega), x_pI_1, if_neg (by omega), x_pI_1, if_neg (by omega)]; exact a8 j hj
theorem p_E.push (h : p_E S C cs ws σ μ) (c : Nat) : p_E S C cs (c :: ws) (x_pI (x_pI σ 20 ws.length (nI c)) 14 9 (nI (ws.length + 1))) (x_pI (x_pI μ 28 ws.length (nI (n_tk c))) 0 44 (nI (ws.length + 1))) := by
  obtain ⟨a1, a2, a3, a4, a5, a6, a7, a8⟩ := h
  refine ⟨?_, fun j hj => ?_, ?_, fun j hj => ?_, ?_, fun j hj => ?_, ?_, fun j hj => ?_⟩
  · rw [x_pI_1, if_neg (by omega), x_pI_1, if_neg (by omega)]; exact a1
  · rw [x_pI_1, if_neg (by omega), x_pI_1, if_neg (by omega)]; exact a2 j hj
  · rw [x_pI_1, if_neg (by omega), x_pI_1, if_neg (by omega)]; exact a3
  · rw [x_pI_1, if_neg (by omega), x_pI_1, if_neg (by omega), x_pI_1, if_neg (by omega), x_pI_1, if_neg (by omega)]; exact a4 j hj
  · rw [x_pI_1, if_pos ⟨rfl, rfl⟩]; rfl
  · rw [x_pI_1, if_neg (by omega), x_pI_1, w_at]
    by_cases q : j = ws.length
    · rw [if_pos ⟨rfl, q⟩, if_pos q]
    · rw [if_neg (fun z => q z.2), if_neg q]; exact a6 j (by simp at hj; omega)
  · rw [x_pI_1, if_pos ⟨rfl, rfl⟩]; rfl
  · rw [x_pI_1, if_neg (by omega), x_pI_1, w_at]
    by_cases q : j = ws.length
    · rw [if_pos ⟨rfl, q⟩, if_pos q]
    · rw [if_neg (fun z => q z.2), if_neg q]; exact a8 j (by simp at hj; omega)
theorem p_E.pop {c : Nat} (h : p_E S C cs (c :: ws) σ μ) : p_E S C cs ws (x_pI σ 14 9 (nI ws.length)) (x_pI μ 0 44 (nI ws.length)) ∧ σ.1 14 9 = nI (ws.length + 1) ∧ σ.1 20 ws.length = nI c ∧ μ.1 0 44 = nI (ws.length + 1) ∧ μ.1 28 ws.length = nI (n_tk c) := by
  obtain ⟨a1, a2, a3, a4, a5, a6, a7, a8⟩ := h
  refine ⟨⟨?_, fun j hj => ?_, ?_, fun j hj => ?_, ?_, fun j hj => ?_, ?_, fun j hj => ?_⟩, a5, ?_, a7, ?_⟩
  · rw [x_pI_1, if_neg (by omega)]; exact a1
  · rw [x_pI_1, if_neg (by omega)]; exact a2 j hj
  · rw [x_pI_1, if_neg (by omega)]; exact a3
  · rw [x_pI_1, if_neg (by omega), x_pI_1, if_neg (by omega)]; exact a4 j hj
  · rw [x_pI_1, if_pos ⟨rfl, rfl⟩]
  · rw [x_pI_1, if_neg (by omega)]
    have := a6 j (by simp; omega)
    rw [w_at, if_neg (by omega)] at this; exact this
  · rw [x_pI_1, if_pos ⟨rfl, rfl⟩]
  · rw [x_pI_1, if_neg (by omega)]
    have := a8 j (by simp; omega)
    rw [w_at, if_neg (by omega)] at this; exact this
  · have := a6 ws.length (by simp)
    rw [w_at, if_pos rfl] at this; exact this
  · have := a8 ws.length (by simp)
    rw [w_at, if_pos rfl] at this; exact this
end EX
