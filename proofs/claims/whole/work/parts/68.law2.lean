/-! READING: a law, both -/
def c_lw (S N : Nat) (σ τ : x_Hp) : Prop := (∀ a b, ¬ (a = 28 ∧ (b = 1 ∨ b = 3)) → ¬ (a = 30 ∧ N < b) → ¬ (a = 14 ∧ (b = 6 ∨ b = 9)) → a ≠ 19 → a ≠ 20 → ¬ (a = 29 ∧ S ≤ b) → τ.1 a b = σ.1 a b) ∧ ∀ a b, τ.2 a b = σ.2 a b
section LAW
variable {σ0 μ0 : x_Hp} {K P : Nat → Nat} {m sd q h : Nat}
/-- a piece more -/
theorem p_pc (ht : t_fin σ0 μ0 K P m) {σ μ : x_Hp} {S N C B b tm : Nat} (g : p_R σ0 μ0 P m sd h h σ μ) (htm : tm = 59 ∨ tm = 60 ∨ tm = 14 ∨ tm = 15) (b1 : S ≤ 7 + h) (b2 : N ≤ 7 + h) (b3 : 420 * sd ≤ C) (b4 : C ≤ 420 * sd + h) (e1 : σ.1 28 1 = nI S) (e2 : σ.1 28 3 = nI N) (e3 : σ.1 30 N = nI S) (e4 : μ.1 0 40 = nI C) (e5 : μ.1 0 12 = 0) (e6 : μ.1 0 34 = nI b) (b5 : 130 * sd ≤ b) (b6 : b ≤ 130 * sd + B) : ∃ τ ν, x_b (F_X9_expression μ) (fun _ s => F_X9_must (nI (n_tk tm)) s) = some ((), ν) ∧ ((F_X4_takePiece (nI tm) σ = some (1, τ) ∧ ∃ h' cs, h' ≤ 400 ∧ cs.length + h < h' ∧ 1 ≤ cs.length ∧ p_R σ0 μ0 P m sd h' h' τ ν ∧ τ.1 28 1 = nI (S + cs.length) ∧ τ.1 28 3 = nI (N + 1) ∧ τ.1 30 (N + 1) = nI (S + cs.length) ∧ ν.1 0 40 = nI (C + cs.length) ∧ ν.1 0 12 = 0 ∧ ν.1 0 34 = nI b ∧ ν.1 0 44 = nI 0 ∧ c_pc (S + cs.length) (N + 1) τ N cs ∧ y_c sd (C + cs.length) ν (nI C) (nI (C + cs.length)) cs ∧ c_lw S N σ τ ∧ y_xf C μ ν) ∨ (F_X4_takePiece (nI tm) σ = some (0, τ) ∧ p_bad σ0 μ0 sd B τ ν)) := by
  have h4 := g.2.2.2.1
  obtain ⟨τ, ν, r1, r2⟩ := p_piece (tm := tm) (pcn := N) (B := B) ht ⟨b1, b3, b4, b, b5, b6, e6⟩ htm ⟨e2, by omega⟩ g e1 e4 e5
  refine ⟨τ, ν, r1, ?_⟩
  rcases r2 with ⟨c, h', cs, a1, a2, a3, a4, a5, a6, a7, a8, a9, a10, a11, a12⟩ | r2
  · have hl : 1 ≤ cs.length := by
      cases cs with
      | nil => simp [m_ok, m_dep] at a3
      | cons c l => simp
    obtain ⟨p1, p2, p3, p4, p5, p6, p7, p8⟩ := a5
    refine Or.inl ⟨c, h', cs, a1, a2, hl, a4, p1, a6, a7, p3, a8, by rw [a9, e6], p7, ⟨Nat.le_refl _, a3, S, ?_, a7, Nat.le_refl _, p2⟩, ⟨a3, C, rfl, rfl, b3, Nat.le_refl _, p4⟩, ⟨fun x y z1 z2 z3 z4 z5 z6 => a10 x y (by omega) (by omega) z3 z4 z5 (by omega) z6, a11⟩, a12⟩
    rw [a10 30 N (by omega) (by omega) (by omega) (by omega) (by omega) (by omega) (by omega)]; exact e3
  · exact Or.inr r2
/-- what a law may write -/
def c_lf (σ τ : x_Hp) : Prop := (∀ a b, ¬ (a = 14 ∧ (b = 6 ∨ b = 9)) → a ≠ 19 → a ≠ 20 → ¬ (28 ≤ a ∧ a ≤ 32) → τ.1 a b = σ.1 a b) ∧ ∀ a b, τ.2 a b = σ.2 a b
def y_lf (μ τ : x_Hp) : Prop := (∀ a b, ¬ (a = 0 ∧ (b = 11 ∨ b = 12 ∨ b = 34 ∨ b = 40 ∨ b = 44)) → ¬ (19 ≤ a ∧ a ≤ 28) → τ.1 a b = μ.1 a b) ∧ ∀ a b, τ.2 a b = μ.2 a b
/-- the laws, as they stand -/
def p_TL (sd S N C bn h ex : Nat) (L : x_LW) (σ μ : x_Hp) : Prop := S ≤ 7 + h ∧ N ≤ 7 + h ∧ 420 * sd ≤ C ∧ C ≤ 420 * sd + h ∧ σ.1 28 1 = nI S ∧ σ.1 28 3 = nI N ∧ σ.1 30 N = nI S ∧ μ.1 0 40 = nI C ∧ μ.1 0 12 = 0 ∧ μ.1 0 34 = nI (130 * sd + bn) ∧ (∃ w, w ≤ 40 ∧ μ.1 0 44 = nI w ∧ (w = 0 ∨ C = 420 * sd)) ∧ c_L S N σ L ex ∧ y_L sd C bn μ L ex
/-- the last piece, and the law stands: what both do there -/
theorem p_end (ht : t_fin σ0 μ0 K P m) {σ μ : x_Hp} {S N C B b0 i kq p0 : Nat} {L : x_LW} {qs : List (List Int32 × List Int32 × List Int32)} (g : p_R σ0 μ0 P m sd h h σ μ) (hq : kq < 7) (b1 : S ≤ 7 + h) (b2 : N ≤ 7 + h) (b3 : 420 * sd ≤ C) (b4 : C ≤ 420 * sd + h) (e1 : σ.1 28 1 = nI S) (e2 : σ.1 28 3 = nI N) (e3 : σ.1 30 N = nI S) (e4 : μ.1 0 40 = nI C) (e5 : μ.1 0 12 = 0) (e6 : μ.1 0 34 = nI (130 * sd + (b0 + i))) (hN : N = p0 + 3 * i) (hi : qs.length = i) (b5 : 4 * (b0 + i) + 2 ≤ h) (h31 : σ.1 31 kq = nI p0) (h32 : σ.1 32 kq = nI i) (c1 : c_pre S N σ p0 qs) (c2 : y_pre sd C μ (130 * sd + b0) qs) (c3 : c_L S N σ L kq) (c4 : y_L sd C b0 μ L kq) (hB : 110 ≤ B) (hB2 : B < 128) : ∃ τ ν, F_X9_tellLaw_129 (nI kq) (nI (130 * sd + b0)) μ = some ((), ν) ∧ ((F_X4_tellLaw_109 σ = some (1, τ) ∧ ∃ h' S' N' C' z, h' ≤ 400 ∧ h + 2 ≤ h' ∧ p_R σ0 μ0 P m sd h' h' τ ν ∧ p_TL sd S' N' C' (b0 + i + 1) h' 7 (fun k => if k = kq then (qs, z) else L k) τ ν ∧ 4 * (b0 + i + 1) ≤ h' ∧ c_lf σ τ ∧ y_lf μ ν) ∨ (F_X4_tellLaw_109 σ = some (0, τ) ∧ p_bad σ0 μ0 sd (B + 1) τ ν)) := by
  have h4 := g.2.2.2.1
  have hsd := g.2.2.1
  have hb : 130 * sd + (b0 + i) < 260 := by omega
  have v0 : vp_nar .boolean (0 : Int32) = 0 := rfl
  -- the reference's row of the branch
  have g2 : p_R σ0 μ0 P m sd h h σ (x_pI (x_pI μ 21 (130 * sd + (b0 + i)) 0) 24 (130 * sd + (b0 + i)) (nI C)) := (g.pIy (a := 21) (b := 130 * sd + (b0 + i)) (by unfold y_Fs; omega) (by omega) _).pIy (a := 24) (b := 130 * sd + (b0 + i)) (by unfold y_Fs; omega) (by omega) _
  obtain ⟨τ, ν, r1, r2⟩ := p_pc (B := B) (b := 130 * sd + (b0 + i)) (tm := 59) ht g2 (Or.inl rfl) b1 b2 b3 b4 e1 e2 e3 (by rw [x_pI_1, if_neg (by omega), x_pI_1, if_neg (by omega)]; exact e4) (by rw [x_pI_1, if_neg (by omega), x_pI_1, if_neg (by omega)]; exact e5) (by rw [x_pI_1, if_neg (by omega), x_pI_1, if_neg (by omega)]; exact e6) (by omega) (by omega)
  have e40 : (x_pI μ 21 (130 * sd + (b0 + i)) 0).1 0 40 = nI C := by rw [x_pI_1, if_neg (by omega)]; exact e4
  have tm : x_b (F_X9_term (x_pI μ 21 (130 * sd + (b0 + i)) 0)) (fun _ s => F_X9_must (nI (n_tk 59)) s) = F_X9_term_24 ν := by
    refine y_term_must (b := 130 * sd + (b0 + i)) (by rw [x_pI_1, if_neg (by omega)]; exact e6) hb (by rw [x_pI_1, if_neg (by omega)]; exact g.k13) ?_
    rw [e40]; exact r1
  have hrf : F_X9_tellLaw_129 (nI kq) (nI (130 * sd + b0)) μ = x_b (F_X9_term_24 ν) (fun _ σ7 => if (σ7.1 0 13) ≤ 0 then x_gd (x_inb (((7 : Int32) * (σ7.1 0 19)) + nI kq) 14) <| x_pt (x_pI σ7 19 (x_ix (((7 : Int32) * (σ7.1 0 19)) + nI kq)) (nI (130 * sd + b0))) fun σ9 => x_gd (x_inb (((7 : Int32) * (σ9.1 0 19)) + nI kq) 14) <| x_pt (x_pI σ9 20 (x_ix (((7 : Int32) * (σ9.1 0 19)) + nI kq)) (σ9.1 0 34)) fun σ11 => some ((), σ11) else some ((), σ7)) := by
    rw [F_X9_tellLaw_129, e6, x_gd_t (x_inb_nI hb (by decide)), x_pt_s, x_ix_nI (by omega), v0, ← tm, x_b_assoc]
    rfl
  rcases r2 with ⟨c, h', cs, a1, a2, a3, a4, a5, a6, a7, a8, a9, a10, a11, a12, a13, a14, a15⟩ | ⟨c, k, pl, a1, a2⟩
  · have e7 : (7 : Int32) * nI sd + nI kq = nI (7 * sd + kq) := by rw [show (7 : Int32) = nI 7 from rfl, pk_mul, nI_add]
    have t24 : F_X9_term_24 ν = some ((), x_pI (x_pI ν 25 (130 * sd + (b0 + i)) (nI (C + cs.length))) 0 34 (nI (130 * sd + (b0 + i) + 1))) := by
      rw [F_X9_term_24, a10, x_gd_t (x_inb_nI hb (by decide)), x_pt_s, x_ix_nI (by omega), x_pt_s, x_pI_1, if_neg (by omega), a10, nI_1, a8]
    have e19 : (x_pI (x_pI ν 25 (130 * sd + (b0 + i)) (nI (C + cs.length))) 0 34 (nI (130 * sd + (b0 + i) + 1))).1 0 19 = nI sd := by rw [x_pI_1, if_neg (by omega), x_pI_1, if_neg (by omega)]; exact a4.2.2.2.2.2.2.2.2
    have hrf2 : F_X9_tellLaw_129 (nI kq) (nI (130 * sd + b0)) μ = some ((), x_pI (x_pI (x_pI (x_pI ν 25 (130 * sd + (b0 + i)) (nI (C + cs.length))) 0 34 (nI (130 * sd + (b0 + i) + 1))) 19 (7 * sd + kq) (nI (130 * sd + b0))) 20 (7 * sd + kq) (nI (130 * sd + (b0 + i) + 1))) := by
      have e13 : (x_pI (x_pI ν 25 (130 * sd + (b0 + i)) (nI (C + cs.length))) 0 34 (nI (130 * sd + (b0 + i) + 1))).1 0 13 = 0 := by rw [x_pI_1, if_neg (by omega), x_pI_1, if_neg (by omega)]; exact a4.k13
      have e19' : (x_pI (x_pI (x_pI ν 25 (130 * sd + (b0 + i)) (nI (C + cs.length))) 0 34 (nI (130 * sd + (b0 + i) + 1))) 19 (7 * sd + kq) (nI (130 * sd + b0))).1 0 19 = nI sd := by rw [x_pI_1, if_neg (by omega)]; exact e19
      have e34' : (x_pI (x_pI (x_pI ν 25 (130 * sd + (b0 + i)) (nI (C + cs.length))) 0 34 (nI (130 * sd + (b0 + i) + 1))) 19 (7 * sd + kq) (nI (130 * sd + b0))).1 0 34 = nI (130 * sd + (b0 + i) + 1) := by rw [x_pI_1, if_neg (by omega), x_pI_1, if_pos ⟨rfl, rfl⟩]
      rw [hrf, t24, x_b_s, e13, if_pos (by decide), e19, e7, x_gd_t (x_inb_nI (by omega) (by decide)), x_pt_s, x_ix_nI (by omega), e19', e7, x_gd_t (x_inb_nI (by omega) (by decide)), x_pt_s, x_ix_nI (by omega), e34']
    refine ⟨τ, _, hrf2, Or.inl ⟨?_, h', S + cs.length, N + 1, C + cs.length, cs, a1, by omega, ?_, ⟨by omega, by omega, by omega, by omega, a5, a6, a7, ?_, ?_, ?_, ⟨0, by omega, ?_, Or.inl rfl⟩, ?_, ?_⟩, by omega, ?_, ?_⟩⟩
    · rw [F_X4_tellLaw_109, show (59 : Int32) = nI 59 from rfl, c, x_b_s, x_gd_t (by decide)]
    · exact (((a4.pIy (a := 25) (b := 130 * sd + (b0 + i)) (by unfold y_Fs; omega) (by omega) _).pIy (a := 0) (b := 34) (by unfold y_Fs; omega) (by omega) _).pIy (a := 19) (b := 7 * sd + kq) (by unfold y_Fs; omega) (by omega) _).pIy (a := 20) (b := 7 * sd + kq) (by unfold y_Fs; omega) (by omega) _
    · rw [x_pI_1, if_neg (by omega), x_pI_1, if_neg (by omega), x_pI_1, if_neg (by omega), x_pI_1, if_neg (by omega)]; exact a8
    · rw [x_pI_1, if_neg (by omega), x_pI_1, if_neg (by omega), x_pI_1, if_neg (by omega), x_pI_1, if_neg (by omega)]; exact a9
    · rw [x_pI_1, if_neg (by omega), x_pI_1, if_neg (by omega), x_pI_1, if_pos ⟨rfl, rfl⟩]; exact congrArg nI (by omega)
    · rw [x_pI_1, if_neg (by omega), x_pI_1, if_neg (by omega), x_pI_1, if_neg (by omega), x_pI_1, if_neg (by omega)]; exact a11
    · -- the class's laws
      have f30 : ∀ b, b ≤ N → τ.1 30 b = σ.1 30 b := fun b hb => a14.1 30 b (by omega) (by omega) (by omega) (by omega) (by omega) (by omega)
      have f29 : ∀ b, b < S → τ.1 29 b = σ.1 29 b := fun b hb => a14.1 29 b (by omega) (by omega) (by omega) (by omega) (by omega) (by omega)
      intro k hk _
      by_cases z : k = kq
      · subst z
        refine ⟨p0, by rw [a14.1 31 k (by omega) (by omega) (by omega) (by omega) (by omega) (by omega)]; exact h31, by rw [a14.1 32 k (by omega) (by omega) (by omega) (by omega) (by omega) (by omega)]; simp only [if_pos]; rw [hi]; exact h32, ?_, ?_⟩
        · simp only [if_pos]; exact c1.ag (by omega) (by omega) f30 f29
        · simp only [if_pos]; rw [hi, ← hN]; exact a12
      · simp only [if_neg z]
        exact c3.ag (ex' := kq) (by omega) (by omega) f30 f29 (fun k' _ hk' => ⟨hk', a14.1 31 k' (by omega) (by omega) (by omega) (by omega) (by omega) (by omega), a14.1 32 k' (by omega) (by omega) (by omega) (by omega) (by omega) (by omega)⟩) k hk z
    · -- the reference's
      have f : ∀ a j, 21 ≤ a → a ≤ 27 → (26 ≤ a ∧ j < C) ∨ (a ≤ 25 ∧ j ≠ 130 * sd + (b0 + i)) → (x_pI (x_pI (x_pI (x_pI ν 25 (130 * sd + (b0 + i)) (nI (C + cs.length))) 0 34 (nI (130 * sd + (b0 + i) + 1))) 19 (7 * sd + kq) (nI (130 * sd + b0))) 20 (7 * sd + kq) (nI (130 * sd + (b0 + i) + 1))).1 a j = μ.1 a j := fun a j q1 q2 q3 => by
        rw [x_pI_1, if_neg (by omega), x_pI_1, if_neg (by omega), x_pI_1, if_neg (by omega), x_pI_1, if_neg (by omega), a15.1 _ _ (by omega) (by omega) (by omega), x_pI_1, if_neg (by omega), x_pI_1, if_neg (by omega)]
      have fc : ∀ a b, 26 ≤ a → a ≤ 27 → (x_pI (x_pI (x_pI (x_pI ν 25 (130 * sd + (b0 + i)) (nI (C + cs.length))) 0 34 (nI (130 * sd + (b0 + i) + 1))) 19 (7 * sd + kq) (nI (130 * sd + b0))) 20 (7 * sd + kq) (nI (130 * sd + (b0 + i) + 1))).1 a b = ν.1 a b := fun a j q1 q2 => by
        rw [x_pI_1, if_neg (by omega), x_pI_1, if_neg (by omega), x_pI_1, if_neg (by omega), x_pI_1, if_neg (by omega)]
      intro k hk _
      by_cases z : k = kq
      · subst z
        simp only [if_pos]
        refine Or.inr ⟨130 * sd + b0, ?_, ?_, by omega, by omega, c2.ag (by omega) (fun a b q1 q2 q3 => f a b (by omega) q2 (Or.inl ⟨q1, q3⟩)) _ _ (fun a j q1 q2 q3 q4 => f a j q1 (by omega) (Or.inr ⟨q2, by omega⟩)), ?_, ?_⟩
        · rw [x_pI_1, if_neg (by omega), x_pI_1, if_pos ⟨rfl, rfl⟩]
        · rw [x_pI_1, if_pos ⟨rfl, rfl⟩]; exact congrArg nI (by omega)
        · rw [x_pI_1, if_neg (by omega), x_pI_1, if_neg (by omega), x_pI_1, if_neg (by omega), x_pI_1, if_neg (by omega), a15.1 _ _ (by omega) (by omega) (by omega), x_pI_1, if_neg (by omega), x_pI_1, if_pos ⟨rfl, by omega⟩]
        · have q24 : (x_pI (x_pI (x_pI (x_pI ν 25 (130 * sd + (b0 + i)) (nI (C + cs.length))) 0 34 (nI (130 * sd + (b0 + i) + 1))) 19 (7 * sd + k) (nI (130 * sd + b0))) 20 (7 * sd + k) (nI (130 * sd + (b0 + i) + 1))).1 24 (130 * sd + b0 + qs.length) = nI C := by
            rw [x_pI_1, if_neg (by omega), x_pI_1, if_neg (by omega), x_pI_1, if_neg (by omega), x_pI_1, if_neg (by omega), a15.1 _ _ (by omega) (by omega) (by omega), x_pI_1, if_pos ⟨rfl, by omega⟩]
          have q25 : (x_pI (x_pI (x_pI (x_pI ν 25 (130 * sd + (b0 + i)) (nI (C + cs.length))) 0 34 (nI (130 * sd + (b0 + i) + 1))) 19 (7 * sd + k) (nI (130 * sd + b0))) 20 (7 * sd + k) (nI (130 * sd + (b0 + i) + 1))).1 25 (130 * sd + b0 + qs.length) = nI (C + cs.length) := by
            rw [x_pI_1, if_neg (by omega), x_pI_1, if_neg (by omega), x_pI_1, if_neg (by omega), x_pI_1, if_pos ⟨rfl, by omega⟩]
          rw [q24, q25]
          exact a13.ag (Nat.le_refl _) (fun a b q1 q2 _ => fc a b q1 q2)
      · simp only [if_neg z]
        exact c4.ag (ex' := kq) (by omega) (by omega) (fun a b q1 q2 q3 => f a b (by omega) q2 (Or.inl ⟨q1, q3⟩)) (fun a j q1 q2 q3 q4 => f a j q1 (by omega) (Or.inr ⟨q2, by omega⟩)) (fun k' q1 q2 => ⟨q2, by rw [x_pI_1, if_neg (by omega), x_pI_1, if_neg (by omega), x_pI_1, if_neg (by omega), x_pI_1, if_neg (by omega), a15.1 _ _ (by omega) (by omega) (by omega), x_pI_1, if_neg (by omega), x_pI_1, if_neg (by omega)], by rw [x_pI_1, if_neg (by omega), x_pI_1, if_neg (by omega), x_pI_1, if_neg (by omega), x_pI_1, if_neg (by omega), a15.1 _ _ (by omega) (by omega) (by omega), x_pI_1, if_neg (by omega), x_pI_1, if_neg (by omega)]⟩) k hk z
    · exact ⟨fun a b z1 z2 z3 z4 => a14.1 a b (by omega) (by omega) z1 z2 z3 (by omega), a14.2⟩
    · exact ⟨fun a b z1 z2 => by rw [x_pI_1, if_neg (by omega), x_pI_1, if_neg (by omega), x_pI_1, if_neg (by omega), x_pI_1, if_neg (by omega), a15.1 _ _ (by omega) (by omega) (by omega), x_pI_1, if_neg (by omega), x_pI_1, if_neg (by omega)], fun a b => a15.2 a b⟩
  · obtain ⟨ρ, s1, s2⟩ := a2.term24 (by omega)
    refine ⟨τ, ρ, by rw [hrf, s1, x_b_s, if_neg s2.le0], Or.inr ⟨?_, k, pl, a1, s2⟩⟩
    rw [F_X4_tellLaw_109, show (59 : Int32) = nI 59 from rfl, c, x_b_s, x_gd_t (by decide)]
end LAW
