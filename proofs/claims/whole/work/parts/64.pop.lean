/-! READING: what waits comes out, both -/
def g_opc (c : Nat) : Prop := c = 43 ∨ c = 45 ∨ c = 42 ∨ c = 47
theorem g_sh.opc {c : Nat} {ws : List Nat} (h : g_sh (c :: ws)) : c = 40 ∨ g_opc c := by
  rcases h.2 with q | ⟨q, _⟩ | ⟨q, _⟩
  · exact Or.inl q
  · unfold g_wk at q; unfold g_opc; omega
  · unfold g_st at q; unfold g_opc; omega
theorem y_X.any {sd k pl B : Nat} {μ0 μ : x_Hp} (h : y_X sd μ0 k pl B μ) : y_bd sd B μ := ⟨h.hb, h.hw⟩
section POP
variable {σ0 μ0 : x_Hp} {K P : Nat → Nat} {m sd q h S C : Nat}
/-- one comes out: the class's step, the reference's -/
theorem p_one {cs : List Int32} {ws : List Nat} {c : Nat} {σ μ : x_Hp} (g : p_R σ0 μ0 P m sd q h σ μ) (e : p_E S C cs (c :: ws) σ μ) (hc : g_opc c) (h1 : S + cs.length < 420) (hC : 420 * sd ≤ C) (h2 : C + cs.length < 420 * sd + 420) (hlen : ws.length < 40) : ∃ τ ν, p_R σ0 μ0 P m sd q h τ ν ∧ p_E S C (cs ++ [nI (20000 + c)]) ws τ ν ∧ c_xf S σ τ ∧ y_xf C μ ν ∧ μ.1 0 34 = ν.1 0 34 ∧ ν.1 0 12 = μ.1 0 12 ∧ (∀ b, b ≠ 9 → τ.1 14 b = σ.1 14 b) ∧ (∀ f x1, F_X4_endWaiting_0 (f + 1) x1 σ = if (if c = 42 ∨ c = 47 then 2 else 1) < x1 then some ((), σ) else F_X4_endWaiting_0 f x1 τ) ∧ (∀ f x1 x2, x2 = nI (n_tk c) → F_X9_comesOut_42 (F_X9_comesOut_0 f) x1 x2 μ = F_X9_comesOut_0 f x1 ν) := by
  have hsd := g.2.2.1
  obtain ⟨e1, e2, e3, e4, e5⟩ := e.pop
  have ey : ∀ k, y_tok k 0 (nI (20000 + c)) → (F_X1_addStep 28 (nI (20000 + c)) (x_pI σ 14 9 (nI ws.length)) = some ((), x_pI (x_pI (x_pI σ 14 9 (nI ws.length)) 29 (S + cs.length) (nI (20000 + c))) 28 1 (nI (S + cs.length + 1))) ∧ F_X9_emit k 0 (x_pI μ 0 44 (nI ws.length)) = some ((), x_pI (x_pI (x_pI (x_pI μ 0 44 (nI ws.length)) 26 (C + cs.length) k) 27 (C + cs.length) 0) 0 40 (nI (C + cs.length + 1))) ∧ p_E S C (cs ++ [nI (20000 + c)]) ws (x_pI (x_pI (x_pI σ 14 9 (nI ws.length)) 29 (S + cs.length) (nI (20000 + c))) 28 1 (nI (S + cs.length + 1))) (x_pI (x_pI (x_pI (x_pI μ 0 44 (nI ws.length)) 26 (C + cs.length) k) 27 (C + cs.length) 0) 0 40 (nI (C + cs.length + 1)))) := fun k hk => e1.emit h1 (by omega) hk
  have kx : ∃ k, y_tok k 0 (nI (20000 + c)) ∧ ∀ f x1 x2, x2 = nI (n_tk c) → F_X9_comesOut_42 (F_X9_comesOut_0 f) x1 x2 μ = F_X9_comesOut_84 (F_X9_comesOut_0 f) x1 k (x_pI μ 0 44 (nI ws.length)) := by
    have em : nI (ws.length + 1) - (1 : Int32) = nI ws.length := by rw [show (1 : Int32) = nI 1 from rfl, pk_sub (by omega)]; rfl
    unfold g_opc at hc
    rcases hc with rfl | rfl | rfl | rfl
    · refine ⟨2, Or.inr (Or.inr (Or.inl ⟨rfl, rfl⟩)), fun f x1 x2 hx => ?_⟩
      rw [F_X9_comesOut_42, e4, em, x_pt_s, hx, if_pos (by decide)]
    · refine ⟨3, Or.inr (Or.inr (Or.inr (Or.inl ⟨rfl, rfl⟩))), fun f x1 x2 hx => ?_⟩
      rw [F_X9_comesOut_42, e4, em, x_pt_s, hx, if_neg (by decide), if_pos (by decide)]
    · refine ⟨4, Or.inr (Or.inr (Or.inr (Or.inr (Or.inl ⟨rfl, rfl⟩)))), fun f x1 x2 hx => ?_⟩
      rw [F_X9_comesOut_42, e4, em, x_pt_s, hx, if_neg (by decide), if_neg (by decide), if_pos (by decide)]
    · refine ⟨5, Or.inr (Or.inr (Or.inr (Or.inr (Or.inr ⟨rfl, rfl⟩)))), fun f x1 x2 hx => ?_⟩
      rw [F_X9_comesOut_42, e4, em, x_pt_s, hx, if_neg (by decide), if_neg (by decide), if_neg (by decide)]
  obtain ⟨k, k1, k2⟩ := kx
  obtain ⟨b1, b2, b3⟩ := ey k k1
  refine ⟨_, _, ?_, b3, ?_, ?_, ?_, ?_, fun b hb => by rw [x_pI_1, if_neg (by omega), x_pI_1, if_neg (by omega), x_pI_1, if_neg (by omega)], fun f x1 => ?_, fun f x1 x2 hx => ?_⟩
  · exact (((((((g.pIc (a := 14) (b := 9) (by omega) _).pIc (a := 29) (b := S + cs.length) (by omega) _).pIc (a := 28) (b := 1) (by omega) _).pIy (a := 0) (b := 44) (by unfold y_Fs; omega) (by omega) _).pIy (a := 26) (b := C + cs.length) (by unfold y_Fs; omega) (by omega) _).pIy (a := 27) (b := C + cs.length) (by unfold y_Fs; omega) (by omega) _).pIy (a := 0) (b := 40) (by unfold y_Fs; omega) (by omega) _)
  · exact (((c_xf.same S σ).pI (by omega) _).pI (by omega) _).pI (by omega) _
  · exact ((((y_xf.same C μ).pI (by omega) _).pI (by omega) _).pI (by omega) _).pI (by omega) _
  · rw [x_pI_1, if_neg (by omega), x_pI_1, if_neg (by omega), x_pI_1, if_neg (by omega), x_pI_1, if_neg (by omega)]
  · rw [x_pI_1, if_neg (by omega), x_pI_1, if_neg (by omega), x_pI_1, if_neg (by omega), x_pI_1, if_neg (by omega)]
  · have em : nI (ws.length + 1) - (1 : Int32) = nI ws.length := by rw [show (1 : Int32) = nI 1 from rfl, pk_sub (by omega)]; rfl
    have rk : F_X4_rank (nI c) σ = some (if c = 42 ∨ c = 47 then 2 else 1, σ) := by
      unfold g_opc at hc
      rcases hc with rfl | rfl | rfl | rfl <;> rfl
    rw [F_X4_endWaiting_0, e2, if_neg (show ¬ nI (ws.length + 1) ≤ (0 : Int32) from nI_ge (b := ws.length + 1) (a := 0) (by omega) (by omega)), em, e_at, x_aT_nI _ _ (by rw [lnX_20]; exact hlen), e3, x_b_s, rk, x_b_s]
    by_cases z : (if c = 42 ∨ c = 47 then (2 : Int32) else 1) < x1
    · rw [if_pos z, if_pos z]
    · rw [if_neg z, if_neg z, x_pt_s, e2, em, x_pI_1, if_pos ⟨rfl, rfl⟩, e_at, x_aT_nI _ _ (by rw [lnX_20]; exact hlen), x_b_s, x_pI_1, if_neg (by omega), e3, y_20k, nI_add, b1, x_b_s]
  · rw [k2 f x1 x2 hx, F_X9_comesOut_84, b2, x_b_s]
theorem p_top40 {cs : List Int32} {ws : List Nat} {σ μ : x_Hp} (e : p_E S C cs (40 :: ws) σ μ) (hlen : ws.length < 40) (f : Nat) : (∀ x1 : Int32, (0 : Int32) < x1 → F_X4_endWaiting_0 (f + 1) x1 σ = some ((), σ)) ∧ ∀ x1 : Int32, F_X9_comesOut_0 (f + 1) x1 μ = some ((), μ) := by
  obtain ⟨e1, e2, e3, e4, e5⟩ := e.pop
  have em : nI (ws.length + 1) - (1 : Int32) = nI ws.length := by rw [show (1 : Int32) = nI 1 from rfl, pk_sub (by omega)]; rfl
  constructor
  · intro x1 hx
    rw [F_X4_endWaiting_0, e2, if_neg (show ¬ nI (ws.length + 1) ≤ (0 : Int32) from nI_ge (b := ws.length + 1) (a := 0) (by omega) (by omega)), em, e_at, x_aT_nI _ _ (by rw [lnX_20]; exact hlen), e3, x_b_s, show F_X4_rank (nI 40) σ = some (0, σ) from rfl, x_b_s, if_pos hx]
  · intro x1
    rw [F_X9_comesOut_0, e4, if_neg (show ¬ nI (ws.length + 1) ≤ (0 : Int32) from nI_ge (b := ws.length + 1) (a := 0) (by omega) (by omega)), em, x_gd_t (x_inb_nI (by omega) (by decide)), x_ix_nI (by omega), e5, if_pos (by decide)]
theorem p_pop (sg : Bool) : ∀ (ws : List Nat) (cs : List Int32) (σ μ : x_Hp) (f1 f2 : Nat), p_R σ0 μ0 P m sd q h σ μ → p_E S C cs ws σ μ → g_sh ws → g_par ws ≤ 6 → m_dep cs 0 = some (g_ops ws + 1) → S + cs.length + ws.length ≤ 419 → 420 * sd ≤ C → C + cs.length + ws.length ≤ 420 * sd + 419 → ws.length < f1 → ws.length < f2 → ∃ ws' cs' τ ν, F_X4_endWaiting_0 f1 (if sg = true then 2 else 1) σ = some ((), τ) ∧ F_X9_comesOut_0 f2 (if sg = true then 1 else 0) μ = some ((), ν) ∧ p_R σ0 μ0 P m sd q h τ ν ∧ p_E S C cs' ws' τ ν ∧ g_sh ws' ∧ g_par ws' = g_par ws ∧ m_dep cs' 0 = some (g_ops ws' + 1) ∧ cs'.length + ws'.length = cs.length + ws.length ∧ (ws'.headD 40 = 40 ∨ (sg = true ∧ g_wk (ws'.headD 40))) ∧ c_xf S σ τ ∧ y_xf C μ ν ∧ ν.1 0 34 = μ.1 0 34 ∧ ν.1 0 12 = μ.1 0 12 ∧ (∀ b, b ≠ 9 → τ.1 14 b = σ.1 14 b)
  | [], cs, σ, μ, f1, f2, g, e, hs, hp, hd, b1, b2, b3, hf1, hf2 => by
    obtain ⟨f1, rfl⟩ := Nat.exists_eq_succ_of_ne_zero (show f1 ≠ 0 by omega)
    obtain ⟨f2, rfl⟩ := Nat.exists_eq_succ_of_ne_zero (show f2 ≠ 0 by omega)
    refine ⟨[], cs, σ, μ, ?_, ?_, g, e, hs, rfl, hd, rfl, Or.inl rfl, c_xf.same S σ, y_xf.same C μ, rfl, rfl, fun _ _ => rfl⟩
    · rw [F_X4_endWaiting_0, e.2.2.2.2.1, if_pos (by decide)]
    · rw [F_X9_comesOut_0, e.2.2.2.2.2.2.1, if_pos (by decide)]
  | c :: ws, cs, σ, μ, f1, f2, g, e, hs, hp, hd, b1, b2, b3, hf1, hf2 => by
    obtain ⟨f1, rfl⟩ := Nat.exists_eq_succ_of_ne_zero (show f1 ≠ 0 by omega)
    obtain ⟨f2, rfl⟩ := Nat.exists_eq_succ_of_ne_zero (show f2 ≠ 0 by omega)
    have hmx := g_max hs hp
    simp only [List.length_cons] at hmx b1 b3 hf1 hf2
    have hsd := g.2.2.1
    obtain ⟨e1, e2, e3, e4, e5⟩ := e.pop
    rcases hs.opc with hc | hc
    · subst hc
      have tp := p_top40 e (by omega)
      refine ⟨40 :: ws, cs, σ, μ, (tp f1).1 _ (by cases sg <;> decide), (tp f2).2 _, g, e, hs, rfl, hd, rfl, Or.inl rfl, c_xf.same S σ, y_xf.same C μ, rfl, rfl, fun _ _ => rfl⟩
    · have c40 : c ≠ 40 := by unfold g_opc at hc; omega
      have em : nI (ws.length + 1) - (1 : Int32) = nI ws.length := by rw [show (1 : Int32) = nI 1 from rfl, pk_sub (by omega)]; rfl
      obtain ⟨τ, ν, r1, r2, r3, r4, r5, r6, r9, r7, r8⟩ := p_one g e hc (by omega) b2 (by omega) (by omega)
      -- the reference comes to the sign
      have rf : F_X9_comesOut_0 (f2 + 1) (if sg = true then 1 else 0) μ = if sg = true ∧ (c = 43 ∨ c = 45) then some ((), μ) else F_X9_comesOut_0 f2 (if sg = true then 1 else 0) ν := by
        rw [F_X9_comesOut_0, e4, if_neg (show ¬ nI (ws.length + 1) ≤ (0 : Int32) from nI_ge (b := ws.length + 1) (a := 0) (by omega) (by omega)), em, x_gd_t (x_inb_nI (by omega) (by decide)), x_ix_nI (by omega), e5, r8 _ _ _ rfl]
        unfold g_opc at hc
        rcases hc with rfl | rfl | rfl | rfl <;> cases sg <;> rfl
      by_cases z : sg = true ∧ (c = 43 ∨ c = 45)
      · rw [if_pos z] at rf
        refine ⟨c :: ws, cs, σ, μ, ?_, rf, g, e, hs, rfl, hd, rfl, Or.inr ⟨z.1, z.2⟩, c_xf.same S σ, y_xf.same C μ, rfl, rfl, fun _ _ => rfl⟩
        rw [r7, z.1, if_neg (show ¬ (c = 42 ∨ c = 47) by omega)]
        rfl
      · rw [if_neg z] at rf
        have hD : m_dep (cs ++ [nI (20000 + c)]) 0 = some (g_ops ws + 1) := by
          rw [m_dep_snoc _ _ _ _ hd, g_ops, if_neg c40]
          have l2 : ¬ nI (20000 + c) < (20000 : Int32) := by unfold g_opc at hc; rcases hc with rfl | rfl | rfl | rfl <;> decide
          rw [m_dep, if_neg l2, if_pos (by omega), m_dep]
          exact congrArg some (by omega)
        have lc : (cs ++ [nI (20000 + c)]).length = cs.length + 1 := by simp
        have hp' : g_par ws ≤ 6 := by rw [g_par, if_neg c40] at hp; omega
        obtain ⟨ws', cs', τ', ν', s1, s2, s3, s4, s5, s6, s7, s8, s9, s10, s11, s12, s13, s14⟩ := p_pop sg ws (cs ++ [nI (20000 + c)]) τ ν f1 f2 r1 r2 hs.1 hp' hD (by rw [lc]; omega) b2 (by rw [lc]; omega) (by omega) (by omega)
        refine ⟨ws', cs', τ', ν', ?_, by rw [rf]; exact s2, s3, s4, s5, by rw [s6, g_par, if_neg c40]; omega, s7, by rw [s8, lc, List.length_cons]; omega, s9, r3.tr s10, r4.tr s11, by rw [s12, r5], by rw [s13, r6], fun b hb => (s14 b hb).trans (r9 b hb)⟩
        rw [r7, ← s1]
        have : ¬ (if c = 42 ∨ c = 47 then (2 : Int32) else 1) < (if sg = true then 2 else 1) := by
          unfold g_opc at hc
          rcases hc with rfl | rfl | rfl | rfl <;> cases sg <;> first | decide | exact absurd ⟨rfl, by decide⟩ z
        rw [if_neg this]
end POP
