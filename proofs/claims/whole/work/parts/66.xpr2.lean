/-! READING: an expression: behind an operand -/
section XPR2
variable {σ0 μ0 σs μs : x_Hp} {K P : Nat → Nat} {m sd S C B h0 tm pcn h q : Nat}
theorem p_R.mix {σ μ τ ν : x_Hp} (g : p_R σ0 μ0 P m sd q h σ μ) (g' : p_R σ0 μ0 P m sd q h τ ν) (h1 : τ.1 14 10 = σ.1 14 10) (h2 : τ.1 14 11 = σ.1 14 11) : p_R σ0 μ0 P m sd q h σ ν :=
  ⟨g.1, g'.2.1, g.2.2.1, g.2.2.2.1, g.2.2.2.2.1, g'.2.2.2.2.2.1, g'.2.2.2.2.2.2.1, g'.2.2.2.2.2.2.2.1.hd (Nat.le_refl _) h1.symm h2.symm rfl rfl, g'.2.2.2.2.2.2.2.2⟩
theorem c_sgn {k : Nat} (hk : k < 62) (σ : x_Hp) : (g_opc k → F_X4_isSign (nI k) σ = some (1, σ)) ∧ (¬ g_opc k → F_X4_isSign (nI k) σ = some (0, σ)) := by
  have e : ∀ d, d < 62 → (nI k = nI d ↔ k = d) := fun d hd => nI_eq (by omega) (by omega)
  have x43 : nI k = 43 ↔ k = 43 := e 43 (by decide)
  have x45 : nI k = 45 ↔ k = 45 := e 45 (by decide)
  have x42 : nI k = 42 ↔ k = 42 := e 42 (by decide)
  have x47 : nI k = 47 ↔ k = 47 := e 47 (by decide)
  rw [F_X4_isSign]
  constructor
  · intro z
    unfold g_opc at z
    rcases z with rfl | rfl | rfl | rfl <;> rfl
  · intro z
    unfold g_opc at z
    rw [if_neg (fun w => z (Or.inl (x43.mp w))), if_neg (fun w => z (Or.inr (Or.inl (x45.mp w)))), if_neg (fun w => z (Or.inr (Or.inr (Or.inl (x42.mp w))))), if_neg (fun w => z (Or.inr (Or.inr (Or.inr (x47.mp w)))))]
theorem p_A_step (ht : t_fin σ0 μ0 K P m) (hB : p_B μs sd S C B h0) (htm : tm = 59 ∨ tm = 60 ∨ tm = 14 ∨ tm = 15) (hpc : σs.1 28 3 = nI pcn ∧ pcn + 1 < 420) (iW : p_Ws σ0 μ0 σs μs P m sd S C B h0 tm pcn (h + 1)) (iA : p_As σ0 μ0 σs μs P m sd S C B h0 tm pcn (h + 1)) : p_As σ0 μ0 σs μs P m sd S C B h0 tm pcn h := by
  intro cs ws σ μ f1 f2 n x5 gI hd hf1 hf2 hn hx5
  have hbd := gI.bd hB
  obtain ⟨b1, b2, b3, b, b4, b5, b6⟩ := id hB
  obtain ⟨g, e, g3, g4, g5, g6, g7, g8, g9⟩ := id gI
  have hmx := g_max g3 g4
  have h4 := g.2.2.2.1
  have hsd := g.2.2.1
  have tk := g.tk ht h4.2
  have hK : K h < 62 := by have := tk.1; unfold n_kd at this; omega
  have eK : ∀ d, d < 62 → (nI (K h) = nI d ↔ K h = d) := fun d hd => nI_eq (by omega) (by omega)
  obtain ⟨f1, rfl⟩ := Nat.exists_eq_succ_of_ne_zero (show f1 ≠ 0 by omega)
  obtain ⟨f2, rfl⟩ := Nat.exists_eq_succ_of_ne_zero (show f2 ≠ 0 by omega)
  obtain ⟨n, rfl⟩ := Nat.exists_eq_succ_of_ne_zero (show n ≠ 0 by omega)
  have ktm : n_kd tm := by unfold n_kd; omega
  have i7 : F_X9_is 7 μ = some (if K h = 41 then 1 else 0, μ) := g.is ht (kc := 41) (by unfold n_kd; omega)
  have i8 : F_X9_is 8 μ = some (if K h = 43 then 1 else 0, μ) := g.is ht (kc := 43) (by unfold n_kd; omega)
  have i9 : F_X9_is 9 μ = some (if K h = 45 then 1 else 0, μ) := g.is ht (kc := 45) (by unfold n_kd; omega)
  have i10 : F_X9_is 10 μ = some (if K h = 42 then 1 else 0, μ) := g.is ht (kc := 42) (by unfold n_kd; omega)
  have i15 : F_X9_is 15 μ = some (if K h = 47 then 1 else 0, μ) := g.is ht (kc := 47) (by unfold n_kd; omega)
  have hcl : F_X4_takePiece_15 (f1 + 1) (nI tm) (nI (g_par ws)) 0 1 (nI x5) σ = F_X4_takePiece_69 (F_X4_takePiece_15 f1) (nI tm) (nI (g_par ws)) 0 1 (nI x5) (nI (K h)) σ := by
    rw [F_X4_takePiece_15, if_neg (show ¬ (400 : Int32) < nI x5 from nI_nlt (a := 400) (by omega) (by decide)), if_neg (show ¬ (1 : Int32) = 0 by decide), g.kind ht, x_b_s, if_pos rfl]
  by_cases zs : g_opc (K h)
  · -- a sign
    have h41 : K h ≠ 41 := by unfold g_opc at zs; omega
    have h40 : K h ≠ 40 := by unfold g_opc at zs; omega
    have h32 : K h ≠ 32 := by unfold g_opc at zs; omega
    have pp : ∀ sg : Bool, (sg = true ↔ (K h = 42 ∨ K h = 47)) → p_O σ0 μ0 σs μs P m sd S C B h0 tm pcn (F_X4_takePiece_15 (f1 + 1) (nI tm) (nI (g_par ws)) 0 1 (nI x5) σ) (F_X9_expression_96 (F_X9_expression_12 (n + 1)) (f2 + 1) 0 μ) := by
      intro sg hsg
      obtain ⟨ws', cs', τ, ν, p1, p2, p3, p4, p5, p6, p7, p8, p9, p10, p11, p12, p13, p14⟩ := p_pop sg ws cs σ μ x_fuel x_fuel g e g3 g4 hd (by omega) b2 (by omega) (by rw [x_fuel]; omega) (by rw [x_fuel]; omega)
      have hmx' := g_max p5 (by omega)
      have rk : F_X4_rank (nI (K h)) σ = some (if sg = true then 2 else 1, σ) := by
        unfold g_opc at zs
        rcases zs with z | z | z | z <;> cases sg <;> first | (exfalso; rw [z] at hsg; simp at hsg; done) | (rw [z]; rfl)
      have hcl2 : F_X4_takePiece_15 (f1 + 1) (nI tm) (nI (g_par ws)) 0 1 (nI x5) σ = F_X4_takePiece_190 (F_X4_takePiece_15 f1) (nI tm) (nI (g_par (K h :: ws'))) 1 1 (nI x5) (x_pI (x_pI τ 20 ws'.length (nI (K h))) 14 9 (nI (ws'.length + 1))) := by
        rw [hcl, F_X4_takePiece_69, if_pos rfl, (c_sgn hK σ).1 zs, x_b_s, if_neg (by decide), rk, x_b_s, F_X4_endWaiting, p1, x_b_s, c_addW p4.2.2.2.2.1 (by omega), x_b_s, g_par, if_neg h40, p6, Nat.zero_add]
      have tkν : ν.1 3 h = nI (n_tk (K h)) := (p3.tk ht h4.2).2.2.2.2.1
      have r234 : ∀ s : Int32, s = (if sg = true then 1 else 0) → F_X9_expression_234 (F_X9_expression_12 (n + 1)) 0 1 s μ = x_b (F_X9_goesOn (x_pI (x_pI ν 28 ws'.length (nI (n_tk (K h)))) 0 44 (nI (ws'.length + 1)))) (fun _ σ27 => F_X9_expression_12 (n + 1) 0 1 σ27) := by
        intro s hs
        rw [F_X9_expression_234, hs, F_X9_comesOut, p2, x_b_s, p3.2.2.2.2.2.1, x_gd_t (x_inb_nI (by omega) (by decide)), p4.2.2.2.2.2.2.1, x_gd_t (x_inb_nI (by omega) (by decide)), x_ix_nI (by omega), x_ix_nI (by omega), tkν, x_pt_s, x_pI_1, if_neg (by omega), p4.2.2.2.2.2.2.1, nI_1, x_pt_s]
      have hrf : F_X9_expression_96 (F_X9_expression_12 (n + 1)) (f2 + 1) 0 μ = x_b (F_X9_goesOn (x_pI (x_pI ν 28 ws'.length (nI (n_tk (K h)))) 0 44 (nI (ws'.length + 1)))) (fun _ σ27 => F_X9_expression_12 (n + 1) 0 1 σ27) := by
        have k186 : F_X9_expression_186 (F_X9_expression_12 (n + 1)) 0 1 μ = x_b (F_X9_goesOn (x_pI (x_pI ν 28 ws'.length (nI (n_tk (K h)))) 0 44 (nI (ws'.length + 1)))) (fun _ σ27 => F_X9_expression_12 (n + 1) 0 1 σ27) := by
          rw [F_X9_expression_186, if_neg (by decide), i10, x_b_s]
          by_cases y1 : K h = 42
          · rw [if_pos y1, if_neg (by decide), F_X9_expression_229]
            exact r234 1 (by rw [if_pos (hsg.mpr (Or.inl y1))])
          rw [if_neg y1, if_pos rfl, i15, x_b_s]
          by_cases y2 : K h = 47
          · rw [if_pos y2, if_neg (by decide), F_X9_expression_229]
            exact r234 1 (by rw [if_pos (hsg.mpr (Or.inr y2))])
          rw [if_neg y2, if_pos rfl]
          exact r234 0 (by rw [if_neg (fun w => by have := hsg.mp w; omega)])
        have k181 : F_X9_expression_181 (F_X9_expression_12 (n + 1)) 0 μ = x_b (F_X9_goesOn (x_pI (x_pI ν 28 ws'.length (nI (n_tk (K h)))) 0 44 (nI (ws'.length + 1)))) (fun _ σ27 => F_X9_expression_12 (n + 1) 0 1 σ27) := by
          rw [F_X9_expression_181, k186]
        rw [F_X9_expression_96, i7, x_b_s, if_neg h41, if_pos rfl, F_X9_expression_145, i8, x_b_s]
        by_cases y1 : K h = 43
        · rw [if_pos y1, if_neg (by decide), k181]
        rw [if_neg y1, if_pos rfl, i9, x_b_s]
        by_cases y2 : K h = 45
        · rw [if_pos y2, if_neg (by decide), k181]
        rw [if_neg y2, if_pos rfl, i10, x_b_s]
        by_cases y3 : K h = 42
        · rw [if_pos y3, if_neg (by decide), k181]
        rw [if_neg y3, if_pos rfl, i15, x_b_s]
        have y4 : K h = 47 := by unfold g_opc at zs; omega
        rw [if_pos y4, if_neg (by decide), k181]
      have hr : p_R σ0 μ0 P m sd h h (x_pI (x_pI τ 20 ws'.length (nI (K h))) 14 9 (nI (ws'.length + 1))) (x_pI (x_pI ν 28 ws'.length (nI (n_tk (K h)))) 0 44 (nI (ws'.length + 1))) := (((p3.pIc (by omega) _).pIc (by omega) _).pIy (a := 28) (by unfold y_Fs; omega) (by omega) _).pIy (a := 0) (b := 44) (by unfold y_Fs; omega) (by omega) _
      have pe := p4.push (K h)
      have hbd2 : y_bd sd B (x_pI (x_pI ν 28 ws'.length (nI (n_tk (K h)))) 0 44 (nI (ws'.length + 1))) := ⟨⟨b, b4, b5, by rw [x_pI_1, if_neg (by omega), x_pI_1, if_neg (by omega), p12, g7]; exact b6⟩, ws'.length + 1, C + cs'.length, by omega, by rw [x_pI_1, if_pos ⟨rfl, rfl⟩], by omega, by omega, pe.2.2.1⟩
      rw [hcl2, hrf]
      rcases p_step ht hr (by omega) h32 hbd2 with ⟨a1, a2, a3, a4⟩ | ⟨τ', ν', a2, a3, ⟨k', pl, a4, a5⟩, a6⟩
      · rw [c_190.2 _ a2, a3, x_b_s, F_X9_expression_12, if_neg (show ¬ (1 : Int32) = 0 by decide), if_pos a4.k13]
        have gp : g_par (K h :: ws') = g_par ws := by rw [g_par, if_neg h40, p6, Nat.zero_add]
        refine iW cs' (K h :: ws') _ _ f1 x_fuel n (x5 + 1) ⟨a4, (pe.c (b := 6) (by omega) _).y (b := 11) (by omega) _, ⟨p5, ?_⟩, by omega, by simp only [List.length_cons]; omega, ?_, ?_, ?_, ?_⟩ (by rw [p7, g_ops, if_neg h40, Nat.add_comm]) (by omega) (by rw [x_fuel]; omega) (by omega) (by omega)
        · right
          unfold g_opc at zs
          rcases p9 with p9 | ⟨p9, p9'⟩
          · by_cases y : K h = 42 ∨ K h = 47
            · exact Or.inr ⟨y, Or.inl p9⟩
            · exact Or.inl ⟨show K h = 43 ∨ K h = 45 by omega, p9⟩
          · exact Or.inr ⟨hsg.mp p9, Or.inr p9'⟩
        · rw [x_pI_1, if_neg (by omega), x_pI_1, if_neg (by omega), x_pI_1, if_neg (by omega), p13, gp]; exact g6
        · rw [x_pI_1, if_neg (by omega), x_pI_1, if_neg (by omega), x_pI_1, if_neg (by omega), p12]; exact g7
        · exact (((g8.tr p10).pI (by omega) _).pI (by omega) _).pI (by omega) _
        · exact (((g9.tr p11).pI (by omega) _).pI (by omega) _).pI (by omega) _
      · exact p_O.bad (c_190.1 _ a2) (by rw [a3, x_b_s]; exact a5.x12 n 0 1) ⟨k', pl, a4, a5⟩
    by_cases y : K h = 42 ∨ K h = 47
    · exact pp true (by simp [y])
    · exact pp false (by simp; omega)
  -- no sign
  have r145 : F_X9_expression_145 (F_X9_expression_12 (n + 1)) 0 μ = F_X9_expression_186 (F_X9_expression_12 (n + 1)) 0 0 μ := by
    unfold g_opc at zs
    rw [F_X9_expression_145, i8, x_b_s, if_neg (show ¬ K h = 43 by omega), if_pos rfl, i9, x_b_s, if_neg (show ¬ K h = 45 by omega), if_pos rfl, i10, x_b_s, if_neg (show ¬ K h = 42 by omega), if_pos rfl, i15, x_b_s, if_neg (show ¬ K h = 47 by omega), if_pos rfl]
  obtain ⟨ws', cs', τ, ν, p1, p2, p3, p4, p5, p6, p7, p8, p9, p10, p11, p12, p13, p14⟩ := p_pop false ws cs σ μ x_fuel x_fuel g e g3 g4 hd (by omega) b2 (by omega) (by rw [x_fuel]; omega) (by rw [x_fuel]; omega)
  have p1' : F_X4_endWaiting 1 σ = some ((), τ) := p1
  have p2' : F_X9_comesOut 0 μ = some ((), ν) := p2
  have hmx' := g_max p5 (by omega)
  have p9' : ws'.headD 40 = 40 := by rcases p9 with z | ⟨z, _⟩; exact z; cases z
  have hbdν : y_bd sd B ν := ⟨⟨b, b4, b5, by rw [p12, g7]; exact b6⟩, ws'.length, C + cs'.length, by omega, p4.2.2.2.2.2.2.1, by omega, by omega, p4.2.2.1⟩
  by_cases zp : g_par ws = 0
  · -- no opening sign waits
    have hws : ws' = [] := by
      cases ws' with
      | nil => rfl
      | cons c l => simp only [List.headD_cons] at p9'; rw [g_par, if_pos p9'] at p6; omega
    subst hws
    have hrf : F_X9_expression_96 (F_X9_expression_12 (n + 1)) (f2 + 1) 0 μ = some ((), ν) := by
      have k : F_X9_expression_145 (F_X9_expression_12 (n + 1)) 0 μ = some ((), ν) := by
        rw [r145, F_X9_expression_186, if_pos rfl, g6, zp, if_pos (by decide), F_X9_expression_204, p2', x_b_s]
      rw [F_X9_expression_96, i7, x_b_s, g6, zp]
      by_cases y : K h = 41
      · rw [if_pos y, if_neg (by decide), if_pos (by decide), k]
      · rw [if_neg y, if_pos rfl, k]
    by_cases zt : K h = tm
    · -- its end
      have hcl2 : F_X4_takePiece_15 (f1 + 1) (nI tm) (nI (g_par ws)) 0 1 (nI x5) σ = F_X4_takePiece_190 (F_X4_takePiece_15 f1) (nI tm) (nI 0) 0 0 (nI x5) (x_pI (x_pI τ 28 3 (nI (pcn + 1))) 30 (pcn + 1) (nI (S + cs'.length))) := by
        have e3 : τ.1 28 3 = nI pcn := by rw [p10.1 _ _ (by omega) (by omega) (by omega) (by omega) (by omega), g8.1 _ _ (by omega) (by omega) (by omega) (by omega) (by omega)]; exact hpc.1
        rw [hcl, zp, F_X4_takePiece_69, if_pos rfl, (c_sgn hK σ).2 zs, x_b_s, if_pos rfl, if_neg (show ¬ nI (K h) = (41 : Int32) from fun w => by have := (eK 41 (by decide)).mp w; omega), F_X4_takePiece_153, if_pos (show nI 0 = (0 : Int32) from rfl), if_pos (by rw [zt]), p1', x_b_s, F_X1_endPiece, e3, nI_1, x_pt_s, show x_rf TX 28 2 = 30 by decide +kernel, x_pI_1, if_pos ⟨rfl, rfl⟩, e_put, x_b_s, x_pT_nI _ _ (by rw [lnX_30]; exact hpc.2), x_b_s, x_pI_1, if_neg (by omega), p4.1]
      have hr : p_R σ0 μ0 P m sd h h (x_pI (x_pI τ 28 3 (nI (pcn + 1))) 30 (pcn + 1) (nI (S + cs'.length))) ν := (p3.pIc (by omega) _).pIc (by omega) _
      have iT := hr.is ht ktm
      rw [if_pos zt] at iT
      obtain ⟨f1, rfl⟩ := Nat.exists_eq_succ_of_ne_zero (show f1 ≠ 0 by omega)
      rcases p_step ht hr (by omega) (by omega) hbdν with ⟨a1, a2, a3, a4⟩ | ⟨τ', ν', a2, a3, a4, a6⟩
      · refine ⟨_, _, by rw [hrf, x_b_s, F_X9_must, iT, x_b_s, if_neg (by decide), a3, x_b_s], Or.inl ⟨?_, h + 1, cs', by omega, by simp at p8; omega, p7, a4, ?_, ?_, ?_, ?_, ?_, fun a b z1 z2 z3 z4 z5 z6 z7 => ?_, fun a b => ?_, ?_⟩⟩
        · rw [hcl2, c_190.2 _ a2, F_X4_takePiece_15]
          simp
        · obtain ⟨q1, q2, q3, q4, q5, q6, q7, q8⟩ := p4
          exact ⟨by rw [x_pI_1, if_neg (by omega), x_pI_1, if_neg (by omega), x_pI_1, if_neg (by omega)]; exact q1, fun i hi => by rw [x_pI_1, if_neg (by omega), x_pI_1, if_neg (by omega), x_pI_1, if_neg (by omega)]; exact q2 i hi, by rw [x_pI_1, if_neg (by omega)]; exact q3, fun i hi => by rw [x_pI_1, if_neg (by omega), x_pI_1, if_neg (by omega)]; exact q4 i hi, by rw [x_pI_1, if_neg (by omega), x_pI_1, if_neg (by omega), x_pI_1, if_neg (by omega)]; exact q5, fun j hj => absurd hj (by simp), by rw [x_pI_1, if_neg (by omega)]; exact q7, fun j hj => absurd hj (by simp)⟩
        · rw [x_pI_1, if_neg (by omega), x_pI_1, if_neg (by omega), x_pI_1, if_pos ⟨rfl, rfl⟩]
        · rw [x_pI_1, if_neg (by omega), x_pI_1, if_pos ⟨rfl, rfl⟩]
        · rw [x_pI_1, if_neg (by omega), p13, g6, zp]; rfl
        · rw [x_pI_1, if_neg (by omega), p12]; exact g7
        · rw [x_pI_1, if_neg (by omega), x_pI_1, if_neg (by omega), x_pI_1, if_neg (by omega), p10.1 _ _ z3 z4 z5 z6 z7, g8.1 _ _ z3 z4 z5 z6 z7]
        · exact (p10.2 a b).trans (g8.2 a b)
        · exact (g9.tr p11).pI (by omega) _
      · refine ⟨τ', ν', by rw [hrf, x_b_s, F_X9_must, iT, x_b_s, if_neg (by decide), a3, x_b_s], Or.inr ⟨?_, a4⟩⟩
        rw [hcl2, c_190.1 _ a2]
    · have hm : p_R σ0 μ0 P m sd h h σ ν := g.mix p3 (p14 10 (by decide)) (p14 11 (by decide))
      have iT := hm.is ht ktm
      rw [if_neg zt] at iT
      obtain ⟨τ', ν', a1, a2, a3, a4, a5⟩ := p_fail ht hm hbdν (k := 1) (Or.inl rfl)
      refine ⟨τ', ν', by rw [hrf, x_b_s, F_X9_must, iT, x_b_s, if_pos rfl, show (1 : Int32) = nI 1 from rfl, a2, x_b_s], Or.inr ⟨?_, 1, P h, a3, a4⟩⟩
      have k184 : F_X4_takePiece_184 σ = some (0, τ') := by
        rw [F_X4_takePiece_184, show (1 : Int32) = nI 1 from rfl, a1, x_b_s, x_gd_t (by decide)]
      have k153 : F_X4_takePiece_153 (F_X4_takePiece_15 f1) (nI tm) (nI 0) 0 (nI x5) (nI (K h)) σ = some (0, τ') := by
        rw [F_X4_takePiece_153, if_pos (show nI 0 = (0 : Int32) from rfl), if_neg (fun w => zt ((eK tm (by omega)).mp w)), k184]
      rw [hcl, zp, F_X4_takePiece_69, if_pos rfl, (c_sgn hK σ).2 zs, x_b_s, if_pos rfl]
      by_cases y : nI (K h) = (41 : Int32)
      · rw [if_pos y, if_pos (show nI 0 ≤ (0 : Int32) by decide), k153]
      · rw [if_neg y, k153]
  · have gp : ¬ nI (g_par ws) ≤ (0 : Int32) := nI_ge (b := g_par ws) (a := 0) (by omega) (by omega)
    by_cases z41 : K h = 41
    · -- a closing sign
      obtain ⟨ws'', rfl⟩ : ∃ ws'', ws' = 40 :: ws'' := by
        cases ws' with
        | nil => rw [g_par] at p6; omega
        | cons c l => simp only [List.headD_cons] at p9'; exact ⟨l, by rw [p9']⟩
      obtain ⟨e1, e2, e3, e4, e5⟩ := p4.pop
      have gpp : g_par ws = g_par ws'' + 1 := by rw [← p6, g_par, if_pos rfl, Nat.add_comm]
      have em : nI (ws''.length + 1) - (1 : Int32) = nI ws''.length := by rw [show (1 : Int32) = nI 1 from rfl, pk_sub (by omega)]; rfl
      have em2 : nI (g_par ws'' + 1) - (1 : Int32) = nI (g_par ws'') := by rw [show (1 : Int32) = nI 1 from rfl, pk_sub (by omega)]; rfl
      have em3 : nI (g_par ws'' + 1) + (-1 : Int32) = nI (g_par ws'') := by rw [← em2]; exact (Int32.sub_eq_add_neg _ _).symm
      simp only [List.length_cons] at hmx' p8
      have hcl2 : F_X4_takePiece_15 (f1 + 1) (nI tm) (nI (g_par ws)) 0 1 (nI x5) σ = F_X4_takePiece_190 (F_X4_takePiece_15 f1) (nI tm) (nI (g_par ws'')) 0 1 (nI x5) (x_pI τ 14 9 (nI ws''.length)) := by
        rw [hcl, F_X4_takePiece_69, if_pos rfl, (c_sgn hK σ).2 zs, x_b_s, if_pos rfl, if_pos (show nI (K h) = (41 : Int32) by rw [z41]; rfl), if_neg gp, p1', x_b_s, e2, em, x_pt_s, gpp, em3]
      have hrf : F_X9_expression_96 (F_X9_expression_12 (n + 1)) (f2 + 1) 0 μ = x_b (F_X9_goesOn (x_pI (x_pI ν 0 44 (nI ws''.length)) 0 12 (nI (g_par ws'')))) (fun _ σ9 => F_X9_expression_96 (F_X9_expression_12 (n + 1)) f2 0 σ9) := by
        rw [F_X9_expression_96, i7, x_b_s, if_pos z41, if_neg (by decide), g6, if_neg gp, p2', x_b_s, e4, em, x_pt_s, x_pI_1, if_neg (by omega), p13, g6, gpp, em2, x_pt_s]
      have hr : p_R σ0 μ0 P m sd h h (x_pI τ 14 9 (nI ws''.length)) (x_pI (x_pI ν 0 44 (nI ws''.length)) 0 12 (nI (g_par ws''))) := ((p3.pIc (by omega) _).pIy (a := 0) (b := 44) (by unfold y_Fs; omega) (by omega) _).pIy (a := 0) (b := 12) (by unfold y_Fs; omega) (by omega) _
      have hbd2 : y_bd sd B (x_pI (x_pI ν 0 44 (nI ws''.length)) 0 12 (nI (g_par ws''))) := ⟨⟨b, b4, b5, by rw [x_pI_1, if_neg (by omega), x_pI_1, if_neg (by omega), p12, g7]; exact b6⟩, ws''.length, C + cs'.length, by omega, by rw [x_pI_1, if_neg (by omega), x_pI_1, if_pos ⟨rfl, rfl⟩], by omega, by omega, by rw [x_pI_1, if_neg (by omega), x_pI_1, if_neg (by omega)]; exact p4.2.2.1⟩
      rw [hcl2, hrf]
      rcases p_step ht hr (by omega) (by omega) hbd2 with ⟨a1, a2, a3, a4⟩ | ⟨τ', ν', a2, a3, ⟨k', pl, a4, a5⟩, a6⟩
      · rw [c_190.2 _ a2, a3, x_b_s]
        refine iA cs' ws'' _ _ f1 f2 (n + 1) (x5 + 1) ⟨a4, ((e1.y (b := 12) (by omega) _).c (b := 6) (by omega) _).y (b := 11) (by omega) _, p5.1, by omega, by omega, ?_, ?_, ?_, ?_⟩ (by rw [p7, g_ops, if_pos rfl, Nat.zero_add]) (by omega) (by omega) (by omega) (by omega)
        · rw [x_pI_1, if_neg (by omega), x_pI_1, if_pos ⟨rfl, rfl⟩]
        · rw [x_pI_1, if_neg (by omega), x_pI_1, if_neg (by omega), x_pI_1, if_neg (by omega), p12]; exact g7
        · exact ((g8.tr p10).pI (by omega) _).pI (by omega) _
        · exact (((g9.tr p11).pI (by omega) _).pI (by omega) _).pI (by omega) _
      · obtain ⟨ρ, r1, r2⟩ := a5.x96 (F_X9_expression_12 (n + 1)) (f2 - 1) 0
        rw [show f2 - 1 + 1 = f2 by omega] at r1
        exact p_O.bad (c_190.1 _ a2) (by rw [a3, x_b_s]; exact r1) ⟨k', pl, a4, r2⟩
    · obtain ⟨τ', ν', a1, a2, a3, a4, a5⟩ := p_fail ht g hbd (k := 1) (Or.inl rfl)
      obtain ⟨ρ, r1, r2⟩ := a4.x204
      refine p_O.bad (τ := τ') (ν := ρ) ?_ ?_ ⟨1, P h, a3, r2⟩
      · rw [hcl, F_X4_takePiece_69, if_pos rfl, (c_sgn hK σ).2 zs, x_b_s, if_pos rfl, if_neg (show ¬ nI (K h) = (41 : Int32) from fun w => z41 ((eK 41 (by decide)).mp w)), F_X4_takePiece_153, if_neg (show ¬ nI (g_par ws) = (0 : Int32) from fun w => zp ((nI_eq (b := 0) (by omega) (by decide)).mp w)), F_X4_takePiece_184, show (1 : Int32) = nI 1 from rfl, a1, x_b_s, x_gd_t (by decide)]
      · rw [F_X9_expression_96, i7, x_b_s, if_neg z41, if_pos rfl, r145, F_X9_expression_186, if_pos rfl, g6, if_neg gp, show (1 : Int32) = nI 1 from rfl, a2, x_b_s, r1]
theorem p_both (ht : t_fin σ0 μ0 K P m) (hB : p_B μs sd S C B h0) (htm : tm = 59 ∨ tm = 60 ∨ tm = 14 ∨ tm = 15) (hpc : σs.1 28 3 = nI pcn ∧ pcn + 1 < 420) : ∀ d h, h + d = 401 → p_Ws σ0 μ0 σs μs P m sd S C B h0 tm pcn h ∧ p_As σ0 μ0 σs μs P m sd S C B h0 tm pcn h
  | 0, h, e => ⟨fun cs ws σ μ f1 f2 n x5 g _ _ _ _ _ => absurd g.1.2.2.2.1.1 (by omega), fun cs ws σ μ f1 f2 n x5 g _ _ _ _ _ => absurd g.1.2.2.2.1.1 (by omega)⟩
  | d + 1, h, e => by
    have ih := p_both ht hB htm hpc d (h + 1) (by omega)
    exact ⟨p_W_step ht hB ih.1 ih.2, p_A_step ht hB htm hpc ih.1 ih.2⟩
/-- a piece: an expression and the sign that ends it -/
theorem p_piece (ht : t_fin σ0 μ0 K P m) (hB : p_B μs sd S C B h) (htm : tm = 59 ∨ tm = 60 ∨ tm = 14 ∨ tm = 15) (hpc : σs.1 28 3 = nI pcn ∧ pcn + 1 < 420) (g : p_R σ0 μ0 P m sd h h σs μs) (h1 : σs.1 28 1 = nI S) (h2 : μs.1 0 40 = nI C) (h3 : μs.1 0 12 = 0) : p_O σ0 μ0 σs μs P m sd S C B h tm pcn (F_X4_takePiece (nI tm) σs) (F_X9_expression μs) := by
  have h4 := g.2.2.2.1
  have W := (p_both (K := K) (tm := tm) (pcn := pcn) (σs := σs) ht hB htm hpc (401 - h) h (by omega)).1 [] [] (x_pI σs 14 9 0) (x_pI μs 0 44 0) x_fuel x_fuel (x_fuel - 1) 0 ⟨(g.pIc (by omega) _).pIy (by unfold y_Fs; omega) (by omega) _, ⟨?_, fun i hi => absurd hi (by simp), ?_, fun i hi => absurd hi (by simp), by rw [x_pI_1, if_pos ⟨rfl, rfl⟩]; rfl, fun i hi => absurd hi (by simp), by rw [x_pI_1, if_pos ⟨rfl, rfl⟩]; rfl, fun i hi => absurd hi (by simp)⟩, trivial, by simp [g_par], by simp, by rw [x_pI_1, if_neg (by omega), h3]; rfl, by rw [x_pI_1, if_neg (by omega)], (c_xf.same S σs).pI (by omega) _, (y_xf.same C μs).pI (by omega) _⟩ rfl (by rw [x_fuel]; omega) (by rw [x_fuel]; omega) (by rw [x_fuel]; omega) (by omega)
  · have ec : F_X4_takePiece (nI tm) σs = F_X4_takePiece_15 x_fuel (nI tm) (nI (g_par [])) 1 1 (nI 0) (x_pI σs 14 9 0) := by
      rw [F_X4_takePiece, x_pt_s]; rfl
    have er : F_X9_expression μs = F_X9_expression_23 (F_X9_expression_12 (x_fuel - 1)) x_fuel 0 (x_pI μs 0 44 0) := by
      have e13 : (x_pI μs 0 44 0).1 0 13 = 0 := by rw [x_pI_1, if_neg (by omega)]; exact g.k13
      have e12 : (x_pI μs 0 44 0).1 0 12 = 0 := by rw [x_pI_1, if_neg (by omega)]; exact h3
      have k : ∀ n, F_X9_expression_12 (n + 1) 0 1 (x_pI μs 0 44 0) = F_X9_expression_23 (F_X9_expression_12 n) x_fuel 0 (x_pI μs 0 44 0) := fun n => by
        rw [F_X9_expression_12, if_neg (show ¬ (1 : Int32) = 0 by decide), if_pos e13]
      rw [F_X9_expression, x_pt_s, e12]
      exact k (x_fuel - 1)
    rw [ec, er]; exact W
  · rw [x_pI_1, if_neg (by omega), h1]; rfl
  · rw [x_pI_1, if_neg (by omega), h2]; rfl
end XPR2
