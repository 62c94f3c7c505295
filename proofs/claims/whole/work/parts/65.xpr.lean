/-! READING: an expression and what ends it, both -/
theorem p_E.c {S C : Nat} {cs : List Int32} {ws : List Nat} {σ μ : x_Hp} (h : p_E S C cs ws σ μ) {b : Nat} (q : b ≠ 9) (x : Int32) : p_E S C cs ws (x_pI σ 14 b x) μ := by
  obtain ⟨a1, a2, a3, a4, a5, a6, a7, a8⟩ := h
  exact ⟨by rw [x_pI_1, if_neg (by omega)]; exact a1, fun i hi => by rw [x_pI_1, if_neg (by omega)]; exact a2 i hi, a3, a4, by rw [x_pI_1, if_neg (by omega)]; exact a5, fun i hi => by rw [x_pI_1, if_neg (by omega)]; exact a6 i hi, a7, a8⟩
theorem p_E.y {S C : Nat} {cs : List Int32} {ws : List Nat} {σ μ : x_Hp} (h : p_E S C cs ws σ μ) {b : Nat} (q : b < 20) (x : Int32) : p_E S C cs ws σ (x_pI μ 0 b x) := by
  obtain ⟨a1, a2, a3, a4, a5, a6, a7, a8⟩ := h
  exact ⟨a1, a2, by rw [x_pI_1, if_neg (by omega)]; exact a3, fun i hi => by rw [x_pI_1, if_neg (by omega), x_pI_1, if_neg (by omega)]; exact a4 i hi, a5, a6, by rw [x_pI_1, if_neg (by omega)]; exact a7, fun i hi => by rw [x_pI_1, if_neg (by omega)]; exact a8 i hi⟩
/-- between two tokens of an expression -/
def p_I (σ0 μ0 σs μs : x_Hp) (P : Nat → Nat) (m sd S C B h0 h : Nat) (cs : List Int32) (ws : List Nat) (σ μ : x_Hp) : Prop := p_R σ0 μ0 P m sd h h σ μ ∧ p_E S C cs ws σ μ ∧ g_sh ws ∧ g_par ws ≤ 6 ∧ cs.length + ws.length + h0 ≤ h ∧ μ.1 0 12 = nI (g_par ws) ∧ μ.1 0 34 = μs.1 0 34 ∧ c_xf S σs σ ∧ y_xf C μs μ
/-- what an expression must come to -/
def p_O (σ0 μ0 σs μs : x_Hp) (P : Nat → Nat) (m sd S C B h0 tm pcn : Nat) (cl : Option (Int32 × x_Hp)) (rf : Option (Unit × x_Hp)) : Prop := ∃ τ ν, x_b rf (fun _ s => F_X9_must (nI (n_tk tm)) s) = some ((), ν) ∧ ((cl = some (1, τ) ∧ ∃ h' cs, h' ≤ 400 ∧ cs.length + h0 < h' ∧ m_ok cs ∧ p_R σ0 μ0 P m sd h' h' τ ν ∧ p_E S C cs [] τ ν ∧ τ.1 28 3 = nI (pcn + 1) ∧ τ.1 30 (pcn + 1) = nI (S + cs.length) ∧ ν.1 0 12 = 0 ∧ ν.1 0 34 = μs.1 0 34 ∧ (∀ a b, ¬ (a = 28 ∧ b = 3) → ¬ (a = 30 ∧ b = pcn + 1) → ¬ (a = 14 ∧ (b = 6 ∨ b = 9)) → a ≠ 19 → a ≠ 20 → ¬ (a = 28 ∧ b = 1) → ¬ (a = 29 ∧ S ≤ b) → τ.1 a b = σs.1 a b) ∧ (∀ a b, τ.2 a b = σs.2 a b) ∧ y_xf C μs ν) ∨ (cl = some (0, τ) ∧ p_bad σ0 μ0 sd B τ ν))
section XPR
variable {σ0 μ0 σs μs : x_Hp} {K P : Nat → Nat} {m sd S C B h0 tm pcn h : Nat}
theorem p_O.bad {cl : Option (Int32 × x_Hp)} {rf : Option (Unit × x_Hp)} {τ ν : x_Hp} (h1 : cl = some (0, τ)) (h2 : rf = some ((), ν)) (h3 : p_bad σ0 μ0 sd B τ ν) : p_O σ0 μ0 σs μs P m sd S C B h0 tm pcn cl rf := by
  obtain ⟨k, pl, a, b⟩ := h3
  exact ⟨τ, ν, by rw [h2, x_b_s, b.must], Or.inr ⟨h1, k, pl, a, b⟩⟩
/-- an expression's own bounds -/
def p_B (μs : x_Hp) (sd S C B h0 : Nat) : Prop := S ≤ 7 + h0 ∧ 420 * sd ≤ C ∧ C ≤ 420 * sd + h0 ∧ ∃ b, 130 * sd ≤ b ∧ b ≤ 130 * sd + B ∧ μs.1 0 34 = nI b
theorem p_I.bd {cs : List Int32} {ws : List Nat} {σ μ : x_Hp} (hB : p_B μs sd S C B h0) (g : p_I σ0 μ0 σs μs P m sd S C B h0 h cs ws σ μ) : y_bd sd B μ := by
  obtain ⟨b1, b2, b3, b, b4, b5, b6⟩ := hB
  obtain ⟨g1, g2, g3, g4, g5, g6, g7, g8, g9⟩ := g
  have := g_max g3 g4
  have h4 := g1.2.2.2.1
  exact ⟨⟨b, b4, b5, by rw [g7]; exact b6⟩, ws.length, C + cs.length, by omega, g2.2.2.2.2.2.2.1, by omega, by omega, g2.2.2.1⟩
def p_Ws (σ0 μ0 σs μs : x_Hp) (P : Nat → Nat) (m sd S C B h0 tm pcn h : Nat) : Prop := ∀ cs ws σ μ f1 f2 n x5, p_I σ0 μ0 σs μs P m sd S C B h0 h cs ws σ μ → m_dep cs 0 = some (g_ops ws) → 402 ≤ h + f1 → 402 ≤ h + f2 → 402 ≤ h + n → x5 + h0 ≤ h → p_O σ0 μ0 σs μs P m sd S C B h0 tm pcn (F_X4_takePiece_15 f1 (nI tm) (nI (g_par ws)) 1 1 (nI x5) σ) (F_X9_expression_23 (F_X9_expression_12 n) f2 0 μ)
def p_As (σ0 μ0 σs μs : x_Hp) (P : Nat → Nat) (m sd S C B h0 tm pcn h : Nat) : Prop := ∀ cs ws σ μ f1 f2 n x5, p_I σ0 μ0 σs μs P m sd S C B h0 h cs ws σ μ → m_dep cs 0 = some (g_ops ws + 1) → 402 ≤ h + f1 → 402 ≤ h + f2 → 402 ≤ h + n → x5 + h0 ≤ h → p_O σ0 μ0 σs μs P m sd S C B h0 tm pcn (F_X4_takePiece_15 f1 (nI tm) (nI (g_par ws)) 0 1 (nI x5) σ) (F_X9_expression_96 (F_X9_expression_12 n) f2 0 μ)
theorem c_190 {k15 : Int32 → Int32 → Int32 → Int32 → Int32 → x_Hp → Option (Int32 × x_Hp)} {x1 x2 x3 x4 : Int32} {x5 : Nat} {σ : x_Hp} : (∀ τ, F_X4_take σ = some (0, τ) → F_X4_takePiece_190 k15 x1 x2 x3 x4 (nI x5) σ = some (0, τ)) ∧ (∀ τ, F_X4_take σ = some (1, τ) → F_X4_takePiece_190 k15 x1 x2 x3 x4 (nI x5) σ = k15 x1 x2 x3 x4 (nI (x5 + 1)) τ) := by
  constructor
  · intro τ e; rw [F_X4_takePiece_190, e, x_b_s, if_pos rfl]
  · intro τ e; rw [F_X4_takePiece_190, e, x_b_s, if_neg (by decide), nI_1]
theorem c_addW {σ : x_Hp} {l c : Nat} (h : σ.1 14 9 = nI l) (hl : l < 40) : F_X4_addWaiting (nI c) σ = some ((), x_pI (x_pI σ 20 l (nI c)) 14 9 (nI (l + 1))) := by
  rw [F_X4_addWaiting, h, e_put, x_b_s, x_pT_nI _ _ (by rw [lnX_20]; exact hl), x_pI_1, if_neg (by omega), h, nI_1, x_pt_s]
theorem n_tk_unit' : ∀ a, a ∈ n_kl → a ≠ 31 → (16 ≤ a ∧ a ≤ 24 → n_tk a = 20 + a) ∧ (¬ (16 ≤ a ∧ a ≤ 24) → n_tk a < 36) := by decide +kernel
/-- an operand is wanted -/
theorem p_W_step (ht : t_fin σ0 μ0 K P m) (hB : p_B μs sd S C B h0) (iW : p_Ws σ0 μ0 σs μs P m sd S C B h0 tm pcn (h + 1)) (iA : p_As σ0 μ0 σs μs P m sd S C B h0 tm pcn (h + 1)) : p_Ws σ0 μ0 σs μs P m sd S C B h0 tm pcn h := by
  intro cs ws σ μ f1 f2 n x5 gI hd hf1 hf2 hn hx5
  have hbd := gI.bd hB
  obtain ⟨b1, b2, b3, b, b4, b5, b6⟩ := id hB
  obtain ⟨g, e, g3, g4, g5, g6, g7, g8, g9⟩ := id gI
  have hmx := g_max g3 g4
  have h4 := g.2.2.2.1
  have hsd := g.2.2.1
  have tk := g.tk ht h4.2
  have hK : K h < 62 := by have := tk.1; unfold n_kd at this; omega
  obtain ⟨f1, rfl⟩ := Nat.exists_eq_succ_of_ne_zero (show f1 ≠ 0 by omega)
  obtain ⟨f2, rfl⟩ := Nat.exists_eq_succ_of_ne_zero (show f2 ≠ 0 by omega)
  obtain ⟨n, rfl⟩ := Nat.exists_eq_succ_of_ne_zero (show n ≠ 0 by omega)
  have i6 : F_X9_is 6 μ = some (if K h = 40 then 1 else 0, μ) := g.is ht (kc := 40) (by unfold n_kd; omega)
  have i2 : F_X9_is 2 μ = some (if K h = 31 then 1 else 0, μ) := g.is ht (kc := 31) (by unfold n_kd; omega)
  have hcl : F_X4_takePiece_15 (f1 + 1) (nI tm) (nI (g_par ws)) 1 1 (nI x5) σ = if nI (K h) = (40 : Int32) then (if nI (g_par ws) < (6 : Int32) then x_b (F_X4_addWaiting (nI (K h)) σ) (fun _ σ3 => F_X4_takePiece_190 (F_X4_takePiece_15 f1) (nI tm) (nI (g_par ws) + (1 : Int32)) 1 1 (nI x5) σ3) else x_b (F_X4_fail (2 : Int32) σ) (fun v4 σ4 => x_gd (x_isz v4) <| some (v4, σ4))) else F_X4_takePiece_69 (F_X4_takePiece_15 f1) (nI tm) (nI (g_par ws)) 1 1 (nI x5) (nI (K h)) σ := by
    rw [F_X4_takePiece_15, if_neg (show ¬ (400 : Int32) < nI x5 from nI_nlt (a := 400) (by omega) (by decide)), if_neg (show ¬ (1 : Int32) = 0 by decide), g.kind ht, x_b_s, if_neg (show ¬ (1 : Int32) = 0 by decide)]
  by_cases z : K h = 40
  · have z' : nI (K h) = (40 : Int32) := by rw [z]; rfl
    rw [if_pos z] at i6
    by_cases z6 : g_par ws < 6
    · have ee : nI (g_par ws) + (1 : Int32) = nI (g_par (40 :: ws)) := by rw [nI_1, g_par, if_pos rfl, Nat.add_comm]
      have hr : p_R σ0 μ0 P m sd h h (x_pI (x_pI σ 20 ws.length (nI 40)) 14 9 (nI (ws.length + 1))) (x_pI μ 0 12 (nI (g_par (40 :: ws)))) := ((g.pIc (by omega) _).pIc (by omega) _).pIy (by unfold y_Fs; omega) (by omega) _
      have hbd2 : y_bd sd B (x_pI μ 0 12 (nI (g_par (40 :: ws)))) := by
        obtain ⟨⟨b, c1, c2, c3⟩, w, c, w1, w2, w3, w4, w5⟩ := hbd
        exact ⟨⟨b, c1, c2, by rw [x_pI_1, if_neg (by omega)]; exact c3⟩, w, c, w1, by rw [x_pI_1, if_neg (by omega)]; exact w2, w3, w4, by rw [x_pI_1, if_neg (by omega)]; exact w5⟩
      have hr0 : F_X9_expression_23 (F_X9_expression_12 (n + 1)) (f2 + 1) 0 μ = x_b (F_X9_goesOn (x_pI μ 0 12 (nI (g_par (40 :: ws))))) (fun _ σ11 => x_gd (x_inb (σ11.1 0 44) 64) <| x_pt (x_pI σ11 28 (x_ix (σ11.1 0 44)) (6 : Int32)) fun σ13 => x_pt (x_pI σ13 0 44 ((σ13.1 0 44) + (1 : Int32))) fun σ14 => F_X9_expression_23 (F_X9_expression_12 (n + 1)) f2 0 σ14) := by
        rw [F_X9_expression_23, i6, x_b_s, if_neg (by decide), g6, if_neg (show ¬ nI (g_par ws) = (6 : Int32) from fun w => by have : g_par ws = 6 := (nI_eq (b := 6) (by omega) (by decide)).mp w; omega), F_X9_expression_46, x_pt_s, g6, ee]
      rw [hcl, if_pos z', if_pos (show nI (g_par ws) < (6 : Int32) from nI_lt (b := 6) z6 (by decide)), z, c_addW e.2.2.2.2.1 (by omega), x_b_s, ee, hr0]
      rcases p_step ht hr (by omega) (by omega) hbd2 with ⟨a1, a2, a3, a4⟩ | ⟨τ, ν, a2, a3, ⟨k, pl, a4, a5⟩, a6⟩
      · rw [c_190.2 _ a2, a3, x_b_s]
        have w2 : (x_pI (x_pI μ 0 12 (nI (g_par (40 :: ws)))) 0 11 (nI (h + 1))).1 0 44 = nI ws.length := by rw [x_pI_1, if_neg (by omega), x_pI_1, if_neg (by omega)]; exact e.2.2.2.2.2.2.1
        rw [w2, x_gd_t (x_inb_nI (by omega) (by decide)), x_pt_s, x_ix_nI (by omega), x_pI_1, if_neg (by omega), w2, nI_1, x_pt_s]
        have e2 := (((e.y (b := 12) (by omega) (nI (g_par (40 :: ws)))).y (b := 11) (by omega) (nI (h + 1))).push 40).c (b := 6) (by omega) (nI (h + 1))
        refine iW cs (40 :: ws) _ _ f1 f2 (n + 1) (x5 + 1) ⟨(a4.pIy (a := 28) (b := ws.length) (by unfold y_Fs; omega) (by omega) _).pIy (a := 0) (b := 44) (by unfold y_Fs; omega) (by omega) _, e2, ⟨g3, Or.inl rfl⟩, by rw [g_par, if_pos rfl]; omega, by simp only [List.length_cons]; omega, ?_, ?_, ?_, ?_⟩ (by rw [hd, g_ops, if_pos rfl, Nat.zero_add]) (by omega) (by omega) (by omega) (by omega)
        · rw [x_pI_1, if_neg (by omega), x_pI_1, if_neg (by omega), x_pI_1, if_neg (by omega), x_pI_1, if_pos ⟨rfl, rfl⟩]
        · rw [x_pI_1, if_neg (by omega), x_pI_1, if_neg (by omega), x_pI_1, if_neg (by omega), x_pI_1, if_neg (by omega)]; exact g7
        · exact ((g8.pI (by omega) _).pI (by omega) _).pI (by omega) _
        · exact (((g9.pI (by omega) _).pI (by omega) _).pI (by omega) _).pI (by omega) _
      · obtain ⟨ρ, r1, r2⟩ := a5.open2 (w := ws.length) (c := C + cs.length) (by omega) (by rw [a6.1 _ _ (by omega), x_pI_1, if_neg (by omega)]; exact e.2.2.2.2.2.2.1) (by omega) (by omega) (by rw [a6.1 _ _ (by omega), x_pI_1, if_neg (by omega)]; exact e.2.2.1) (F_X9_expression_12 (n + 1)) (f2 - 1) 0
        rw [show f2 - 1 + 1 = f2 by omega] at r1
        exact p_O.bad (c_190.1 _ a2) (by rw [a3, x_b_s]; exact r1) ⟨k, pl, a4, r2⟩
    · obtain ⟨τ, ν, a1, a2, a3, a4, a5⟩ := p_fail ht g hbd (k := 2) (Or.inr rfl)
      have h6 : g_par ws = 6 := by omega
      obtain ⟨ρ, r1, r2⟩ := a4.x46 (w := ws.length) (c := C + cs.length) (by omega) (by rw [a5.1 _ _ (by omega)]; exact e.2.2.2.2.2.2.1) (by omega) (by omega) (by rw [a5.1 _ _ (by omega)]; exact e.2.2.1) (F_X9_expression_12 (n + 1)) (f2 - 1) 0
      rw [show f2 - 1 + 1 = f2 by omega] at r1
      refine p_O.bad (τ := τ) (ν := ρ) ?_ ?_ ⟨2, P h, a3, r2⟩
      · rw [hcl, if_pos z', if_neg (show ¬ nI (g_par ws) < (6 : Int32) by rw [h6]; decide), show (2 : Int32) = nI 2 from rfl, a1, x_b_s, x_gd_t (by decide)]
      · rw [F_X9_expression_23, i6, x_b_s, if_neg (by decide), g6, if_pos (by rw [h6]; rfl), show (2 : Int32) = nI 2 from rfl, a2, x_b_s]; exact r1
  · have z' : ¬ nI (K h) = (40 : Int32) := fun w => z ((nI_eq (b := 40) (by omega) (by decide)).mp w)
    rw [if_neg z] at i6
    have hcl2 : F_X4_takePiece_15 (f1 + 1) (nI tm) (nI (g_par ws)) 1 1 (nI x5) σ = x_b (F_X4_addUnit (nI (K h)) σ) (fun v11 σ11 => if v11 = 0 then x_b (F_X4_fail (1 : Int32) σ11) (fun v12 σ12 => x_gd (x_isz v12) <| some (v12, σ12)) else F_X4_takePiece_190 (F_X4_takePiece_15 f1) (nI tm) (nI (g_par ws)) 0 1 (nI x5) σ11) := by
      rw [hcl, if_neg z', F_X4_takePiece_69, if_neg (show ¬ (1 : Int32) = 0 by decide)]
    have hrf : F_X9_expression_23 (F_X9_expression_12 (n + 1)) (f2 + 1) 0 μ = x_b (F_X9_unit μ) (fun _ σ3 => if (σ3.1 0 13) ≤ 0 then F_X9_expression_96 (F_X9_expression_12 (n + 1)) x_fuel 0 σ3 else some ((), σ3)) := by
      rw [F_X9_expression_23, i6, x_b_s, if_pos rfl]
    have go : ∀ (k i x : Int32), y_tok k i x → x < 20000 → F_X4_addUnit (nI (K h)) σ = x_b (F_X1_addStep 28 x σ) (fun _ σ1 => some (1, σ1)) → F_X9_unit μ = x_b (F_X9_emit k i μ) (fun _ σ5 => x_b (F_X9_goesOn σ5) fun _ σ6 => some ((), σ6)) → K h ≠ 32 → p_O σ0 μ0 σs μs P m sd S C B h0 tm pcn (F_X4_takePiece_15 (f1 + 1) (nI tm) (nI (g_par ws)) 1 1 (nI x5) σ) (F_X9_expression_23 (F_X9_expression_12 (n + 1)) (f2 + 1) 0 μ) := by
      intro k i x hx hx2 u1 u2 h32
      obtain ⟨m1, m2, m3⟩ := e.emit (by omega) (by omega) hx
      have hr : p_R σ0 μ0 P m sd h h (x_pI (x_pI σ 29 (S + cs.length) x) 28 1 (nI (S + cs.length + 1))) (x_pI (x_pI (x_pI μ 26 (C + cs.length) k) 27 (C + cs.length) i) 0 40 (nI (C + cs.length + 1))) := ((((g.pIc (by omega) _).pIc (by omega) _).pIy (a := 26) (by unfold y_Fs; omega) (by omega) _).pIy (a := 27) (by unfold y_Fs; omega) (by omega) _).pIy (a := 0) (b := 40) (by unfold y_Fs; omega) (by omega) _
      have l1 : (cs ++ [x]).length = cs.length + 1 := by simp
      have hbd2 : y_bd sd B (x_pI (x_pI (x_pI μ 26 (C + cs.length) k) 27 (C + cs.length) i) 0 40 (nI (C + cs.length + 1))) := ⟨⟨b, b4, b5, by rw [x_pI_1, if_neg (by omega), x_pI_1, if_neg (by omega), x_pI_1, if_neg (by omega), g7]; exact b6⟩, ws.length, C + cs.length + 1, by omega, by rw [x_pI_1, if_neg (by omega), x_pI_1, if_neg (by omega), x_pI_1, if_neg (by omega)]; exact e.2.2.2.2.2.2.1, by omega, by omega, by rw [x_pI_1, if_pos ⟨rfl, rfl⟩]⟩
      rw [hcl2, u1, m1, x_b_s, x_b_s, if_neg (by decide), hrf, u2, m2, x_b_s]
      rcases p_step ht hr (by omega) h32 hbd2 with ⟨a1, a2, a3, a4⟩ | ⟨τ, ν, a2, a3, ⟨k', pl, a4, a5⟩, a6⟩
      · rw [c_190.2 _ a2, a3, x_b_s, x_b_s, if_pos (show _ ≤ (0 : Int32) by rw [a4.k13]; decide)]
        have hd2 : m_dep (cs ++ [x]) 0 = some (g_ops ws + 1) := by
          rw [m_dep_snoc _ _ _ _ hd, m_dep, if_pos hx2, if_pos (by omega), m_dep]
        refine iA (cs ++ [x]) ws _ _ f1 x_fuel (n + 1) (x5 + 1) ⟨a4, (m3.c (b := 6) (by omega) _).y (b := 11) (by omega) _, g3, g4, by rw [l1]; omega, ?_, ?_, ?_, ?_⟩ hd2 (by omega) (by rw [x_fuel]; omega) (by omega) (by omega)
        · rw [x_pI_1, if_neg (by omega), x_pI_1, if_neg (by omega), x_pI_1, if_neg (by omega), x_pI_1, if_neg (by omega)]; exact g6
        · rw [x_pI_1, if_neg (by omega), x_pI_1, if_neg (by omega), x_pI_1, if_neg (by omega), x_pI_1, if_neg (by omega)]; exact g7
        · exact ((g8.pI (by omega) _).pI (by omega) _).pI (by omega) _
        · exact (((g9.pI (by omega) _).pI (by omega) _).pI (by omega) _).pI (by omega) _
      · exact p_O.bad (c_190.1 _ a2) (by rw [a3, x_b_s, x_b_s, if_neg a5.le0]) ⟨k', pl, a4, a5⟩
    by_cases z31 : K h = 31
    · rw [if_pos z31] at i2
      obtain ⟨wv, w1, w2, w3⟩ := tk.2.2.2.2.2.2.1 z31
      have hw : F_X4_worth σ = some (lN wv, σ) := by
        rw [F_X4_worth, g.2.2.2.2.1, if_neg (nI_pos (by omega)), if_neg (show ¬ (402 : Int32) ≤ nI h from nI_ge (b := 402) (by omega) (by decide)), x_gd_t (x_inb_nI (by omega) (by decide)), x_ix_nI (by omega), w2]
      refine go 0 (nI wv) (nI wv) (Or.inl ⟨rfl, rfl, nI_lt (b := 10000) (by omega) (by decide)⟩) (nI_lt (b := 20000) (by omega) (by decide)) ?_ ?_ (by omega)
      · rw [F_X4_addUnit, if_pos (show nI (K h) = (31 : Int32) by rw [z31]; rfl), hw, x_b_s, show (lN wv).toInt32 = nI wv from lN_i (by omega)]
      · rw [F_X9_unit, i2, x_b_s, if_neg (by decide), g.2.2.2.2.2.1, x_gd_t (x_inb_nI (by omega) (by decide)), x_ix_nI (by omega), w3]
    · rw [if_neg z31] at i2
      have nu := n_tk_unit' (K h) tk.1.mem z31
      have e3 := tk.2.2.2.2.1
      by_cases zu : 16 ≤ K h ∧ K h ≤ 24
      · have ev : nI (n_tk (K h)) - (36 : Int32) = nI (K h - 16) := by
          rw [show (36 : Int32) = nI 36 from rfl, nu.1 zu, pk_sub (by omega)]
          exact congrArg nI (by omega)
        have ec : ((10000 : Int32) + nI (K h)) - (16 : Int32) = nI (10000 + (K h - 16)) := by
          rw [show (10000 : Int32) = nI 10000 from rfl, nI_add, show (16 : Int32) = nI 16 from rfl, pk_sub (by omega)]
          exact congrArg nI (by omega)
        refine go 1 (nI (K h - 16)) (nI (10000 + (K h - 16))) (Or.inr (Or.inl ⟨rfl, K h - 16, by omega, rfl, rfl⟩)) (nI_lt (b := 20000) (by omega) (by decide)) ?_ ?_ (by omega)
        · rw [F_X4_addUnit, if_neg (show ¬ nI (K h) = (31 : Int32) from fun w => z31 ((nI_eq (b := 31) (by omega) (by decide)).mp w)), if_neg (show ¬ nI (K h) < (16 : Int32) from nI_nlt (a := K h) (b := 16) (by omega) (by omega)), if_neg (show ¬ (24 : Int32) < nI (K h) from nI_nlt (a := 24) (by omega) (by decide)), ec]
        · rw [F_X9_unit, i2, x_b_s, if_pos rfl, g.k13, if_pos rfl, g.2.2.2.2.2.1, x_gd_t (x_inb_nI (by omega) (by decide)), x_ix_nI (by omega), e3, if_neg (show ¬ nI (n_tk (K h)) < (36 : Int32) from nI_nlt (a := n_tk (K h)) (b := 36) (by omega) (by omega)), x_gd_t (x_inb_nI (by omega) (by decide)), if_neg (show ¬ (44 : Int32) < nI (n_tk (K h)) from nI_nlt (a := 44) (by omega) (by decide)), x_gd_t (x_inb_nI (by omega) (by decide)), ev]
      · obtain ⟨τ, ν, a1, a2, a3, a4, a5⟩ := p_fail ht g hbd (k := 1) (Or.inl rfl)
        refine p_O.bad (τ := τ) (ν := ν) ?_ ?_ ⟨1, P h, a3, a4⟩
        · have u : F_X4_addUnit (nI (K h)) σ = some (0, σ) := by
            rw [F_X4_addUnit, if_neg (show ¬ nI (K h) = (31 : Int32) from fun w => z31 ((nI_eq (b := 31) (by omega) (by decide)).mp w))]
            by_cases y : K h < 16
            · rw [if_pos (show nI (K h) < (16 : Int32) from nI_lt (b := 16) y (by decide))]
            · rw [if_neg (show ¬ nI (K h) < (16 : Int32) from nI_nlt (a := K h) (b := 16) (by omega) (by omega)), if_pos (show (24 : Int32) < nI (K h) from nI_lt (a := 24) (by omega) (by omega))]
          rw [hcl2, u, x_b_s, if_pos rfl, show (1 : Int32) = nI 1 from rfl, a1, x_b_s, x_gd_t (by decide)]
        · have u : F_X9_unit μ = some ((), ν) := by
            rw [F_X9_unit, i2, x_b_s, if_pos rfl, g.k13, if_pos rfl, g.2.2.2.2.2.1, x_gd_t (x_inb_nI (by omega) (by decide)), x_ix_nI (by omega), e3, if_pos (show nI (n_tk (K h)) < (36 : Int32) from nI_lt (b := 36) (nu.2 zu) (by decide)), F_X9_unit_88, show (1 : Int32) = nI 1 from rfl, a2, x_b_s]
          rw [hrf, u, x_b_s, if_neg a4.le0]
end XPR
