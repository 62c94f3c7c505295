/-! READING: a law's branches, both -/
theorem c_lf.tr {σ τ ρ : x_Hp} (h : c_lf σ τ) (g : c_lf τ ρ) : c_lf σ ρ := ⟨fun a b p q r s => (g.1 a b p q r s).trans (h.1 a b p q r s), fun a b => (g.2 a b).trans (h.2 a b)⟩
theorem y_lf.tr {σ τ ρ : x_Hp} (h : y_lf σ τ) (g : y_lf τ ρ) : y_lf σ ρ := ⟨fun a b p q => (g.1 a b p q).trans (h.1 a b p q), fun a b => (g.2 a b).trans (h.2 a b)⟩
theorem c_lf.pI (σ : x_Hp) {a b : Nat} (q : (a = 14 ∧ (b = 6 ∨ b = 9)) ∨ a = 19 ∨ a = 20 ∨ (28 ≤ a ∧ a ≤ 32)) (x : Int32) : c_lf σ (x_pI σ a b x) := ⟨fun c d z1 z2 z3 z4 => by rw [x_pI_1, if_neg (fun w : c = a ∧ d = b => by obtain ⟨rfl, rfl⟩ := w; omega)], fun _ _ => rfl⟩
theorem y_lf.pI (σ : x_Hp) {a b : Nat} (q : (a = 0 ∧ (b = 11 ∨ b = 12 ∨ b = 34 ∨ b = 40 ∨ b = 44)) ∨ (19 ≤ a ∧ a ≤ 28)) (x : Int32) : y_lf σ (x_pI σ a b x) := ⟨fun c d z1 z2 => by rw [x_pI_1, if_neg (fun w : c = a ∧ d = b => by obtain ⟨rfl, rfl⟩ := w; omega)], fun _ _ => rfl⟩
theorem c_lw.lf {S N : Nat} {σ τ : x_Hp} (h : c_lw S N σ τ) : c_lf σ τ := ⟨fun a b z1 z2 z3 z4 => h.1 a b (by omega) (by omega) z1 z2 z3 (by omega), h.2⟩
theorem y_xf.lf {C : Nat} {σ τ : x_Hp} (h : y_xf C σ τ) : y_lf σ τ := ⟨fun a b z1 z2 => h.1 a b (by omega) (by omega) (by omega), h.2⟩
theorem p_bad.mono {σ0 μ0 σ μ : x_Hp} {sd B C : Nat} (h : p_bad σ0 μ0 sd B σ μ) (q : B ≤ C) : p_bad σ0 μ0 sd C σ μ := by
  obtain ⟨k, pl, a, b⟩ := h
  exact ⟨k, pl, a, b.mono q⟩
section LAW3
variable {σ0 μ0 : x_Hp} {K P : Nat → Nat} {m sd : Nat}
/-- what stands between two branches of a law -/
def p_LS (σ0 μ0 : x_Hp) (P : Nat → Nat) (m sd kq p0 b0 i : Nat) (L : x_LW) (qs : List (List Int32 × List Int32 × List Int32)) (h S N C : Nat) (σ μ : x_Hp) : Prop := p_R σ0 μ0 P m sd h h σ μ ∧ (S ≤ 7 + h ∧ N ≤ 7 + h ∧ 420 * sd ≤ C ∧ C ≤ 420 * sd + h) ∧ (σ.1 28 1 = nI S ∧ σ.1 28 3 = nI N ∧ σ.1 30 N = nI S) ∧ (μ.1 0 40 = nI C ∧ μ.1 0 12 = 0 ∧ μ.1 0 34 = nI (130 * sd + (b0 + i)) ∧ ∃ w, w ≤ 40 ∧ μ.1 0 44 = nI w ∧ (w = 0 ∨ C = 420 * sd)) ∧ (N = p0 + 3 * i ∧ qs.length = i ∧ 4 * (b0 + i) + 2 ≤ h) ∧ (σ.1 31 kq = nI p0 ∧ σ.1 32 kq = nI i) ∧ c_pre S N σ p0 qs ∧ y_pre sd C μ (130 * sd + b0) qs ∧ c_L S N σ L kq ∧ y_L sd C b0 μ L kq
def p_LO (σ0 μ0 : x_Hp) (P : Nat → Nat) (m sd kq : Nat) (L : x_LW) (h : Nat) (σ μ : x_Hp) (cl : Option (Int32 × x_Hp)) (rf : Option (Unit × x_Hp)) : Prop := ∃ τ ν, rf = some ((), ν) ∧ ((cl = some (1, τ) ∧ ∃ h' S' N' C' bn' qz, h' ≤ 400 ∧ h < h' ∧ p_R σ0 μ0 P m sd h' h' τ ν ∧ p_TL sd S' N' C' bn' h' 7 (fun k => if k = kq then qz else L k) τ ν ∧ 4 * bn' ≤ h' ∧ c_lf σ τ ∧ y_lf μ ν) ∨ (cl = some (0, τ) ∧ p_bad σ0 μ0 sd 120 τ ν))
theorem p_law_loop (ht : t_fin σ0 μ0 K P m) {kq p0 b0 : Nat} (hq : kq < 7) {L : x_LW} : ∀ (d i : Nat), i + d = 4 → ∀ (f f2 h S N C : Nat) (qs : List (List Int32 × List Int32 × List Int32)) (σ μ : x_Hp), p_LS σ0 μ0 P m sd kq p0 b0 i L qs h S N C σ μ → d < f → d < f2 → p_LO σ0 μ0 P m sd kq L h σ μ (F_X4_tellLaw_31 f (nI kq) (nI i) σ) (F_X9_tellLaw_12 f2 (nI kq) (nI (130 * sd + b0)) (nI i) μ) := by
  intro d
  induction d with
  | zero =>
    intro i hid f f2 h S N C qs σ μ hS hf hf2
    obtain ⟨f, rfl⟩ := Nat.exists_eq_succ_of_ne_zero (show f ≠ 0 by omega)
    obtain ⟨f2, rfl⟩ := Nat.exists_eq_succ_of_ne_zero (show f2 ≠ 0 by omega)
    obtain ⟨g, ⟨b1, b2, b3, b4⟩, ⟨e1, e2, e3⟩, ⟨e4, e5, e6, w, w1, w2, w3⟩, ⟨n1, n2, n3⟩, ⟨l1, l2⟩, c1, c2, c3, c4⟩ := hS
    have h4 := g.2.2.2.1
    have hsd := g.2.2.1
    have i4 : i = 4 := by omega
    have hK : K h < 62 := by have := (g.tk ht h4.2).1; unfold n_kd at this; omega
    have i33 : F_X9_is 33 μ = some (if K h = 13 then 1 else 0, μ) := g.is ht (kc := 13) (by unfold n_kd; omega)
    have hbd : y_bd sd 110 μ := ⟨⟨130 * sd + (b0 + i), by omega, by omega, e6⟩, w, C, w1, w2, b3, by omega, e4⟩
    by_cases z : K h = 13
    · obtain ⟨τ, ν, a1, a2, a3, a4, a5⟩ := p_fail ht g hbd (k := 2) (Or.inr rfl)
      refine ⟨τ, ν, ?_, Or.inr ⟨?_, 2, P h, a3, a4.mono (by omega)⟩⟩
      · rw [F_X9_tellLaw_12, if_pos g.k13, i33, if_pos z, x_b_s, if_neg (show ¬ (1 : Int32) = 0 by decide), if_pos (by rw [i4]; rfl), show (2 : Int32) = nI 2 from rfl, a2, x_b_s, F_X9_tellLaw_38, if_neg a4.le0]
      · rw [F_X4_tellLaw_31, if_neg (show ¬ (4 : Int32) < nI i from nI_nlt (a := 4) (by omega) (by decide)), g.kind ht, x_b_s, if_pos (show nI (K h) = (13 : Int32) by rw [z]; rfl), if_pos (by rw [i4]; rfl), show (2 : Int32) = nI 2 from rfl, a1, x_b_s, x_gd_t (by decide)]
    · obtain ⟨τ, ν, r1, r2⟩ := p_end (B := 110) ht g hq b1 b2 b3 b4 e1 e2 e3 e4 e5 e6 n1 n2 n3 l1 l2 c1 c2 c3 c4 (by omega) (by omega)
      have hc : F_X4_tellLaw_31 (f + 1) (nI kq) (nI i) σ = F_X4_tellLaw_109 σ := by
        rw [F_X4_tellLaw_31, if_neg (show ¬ (4 : Int32) < nI i from nI_nlt (a := 4) (by omega) (by decide)), g.kind ht, x_b_s, if_neg (show ¬ nI (K h) = (13 : Int32) from fun w => z ((nI_eq (b := 13) (by omega) (by decide)).mp w))]
      refine ⟨τ, ν, by rw [F_X9_tellLaw_12, if_pos g.k13, i33, if_neg z, x_b_s, if_pos rfl, r1], ?_⟩
      rcases r2 with ⟨c, h', S', N', C', zz, a1, a2, a3, a4, a5, a6, a7⟩ | ⟨c, a⟩
      · exact Or.inl ⟨by rw [hc, c], h', S', N', C', _, _, a1, by omega, a3, a4, a5, a6, a7⟩
      · exact Or.inr ⟨by rw [hc, c], a.mono (by omega)⟩
  | succ d ih =>
    intro i hid f f2 h S N C qs σ μ hS hf hf2
    obtain ⟨f, rfl⟩ := Nat.exists_eq_succ_of_ne_zero (show f ≠ 0 by omega)
    obtain ⟨f2, rfl⟩ := Nat.exists_eq_succ_of_ne_zero (show f2 ≠ 0 by omega)
    obtain ⟨g, ⟨b1, b2, b3, b4⟩, ⟨e1, e2, e3⟩, ⟨e4, e5, e6, w, w1, w2, w3⟩, ⟨n1, n2, n3⟩, ⟨l1, l2⟩, c1, c2, c3, c4⟩ := hS
    have h4 := g.2.2.2.1
    have hsd := g.2.2.1
    have hK : K h < 62 := by have := (g.tk ht h4.2).1; unfold n_kd at this; omega
    have i33 : F_X9_is 33 μ = some (if K h = 13 then 1 else 0, μ) := g.is ht (kc := 13) (by unfold n_kd; omega)
    have hbd : y_bd sd 110 μ := ⟨⟨130 * sd + (b0 + i), by omega, by omega, e6⟩, w, C, w1, w2, b3, by omega, e4⟩
    by_cases z : K h = 13
    · have ni4 : ¬ nI i = (4 : Int32) := fun u => by have : i = 4 := (nI_eq (b := 4) (by omega) (by decide)).mp u; omega
      have hC0 : F_X4_tellLaw_31 (f + 1) (nI kq) (nI i) σ = x_b (F_X4_take σ) (fun v5 σ5 => if v5 = 0 then some ((0 : Int32), σ5) else x_b (F_X4_takePiece (60 : Int32) σ5) fun v6 σ6 => if v6 = 0 then some ((0 : Int32), σ6) else x_b (F_X4_takePiece (14 : Int32) σ6) fun v7 σ7 => if v7 = 0 then some ((0 : Int32), σ7) else x_b (F_X4_takePiece (15 : Int32) σ7) fun v8 σ8 => if v8 = 0 then some ((0 : Int32), σ8) else x_b (F_X1_addIf 28 (nI kq) σ8) fun _ σ9 => (F_X4_tellLaw_31 f) (nI kq) (nI i + (1 : Int32)) σ9) := by
        rw [F_X4_tellLaw_31, if_neg (show ¬ (4 : Int32) < nI i from nI_nlt (a := 4) (by omega) (by decide)), g.kind ht, x_b_s, if_pos (show nI (K h) = (13 : Int32) by rw [z]; rfl), if_neg ni4]
      have hR0 : F_X9_tellLaw_12 (f2 + 1) (nI kq) (nI (130 * sd + b0)) (nI i) μ = F_X9_tellLaw_38 (F_X9_tellLaw_12 f2) (nI kq) (nI (130 * sd + b0)) (nI i) μ := by
        rw [F_X9_tellLaw_12, if_pos g.k13, i33, if_pos z, x_b_s, if_neg (show ¬ (1 : Int32) = 0 by decide), if_neg ni4]
      obtain ⟨f2, rfl⟩ := Nat.exists_eq_succ_of_ne_zero (show f2 ≠ 0 by omega)
      have v1 : vp_nar .boolean (1 : Int32) = 1 := rfl
      have hle : μ.1 0 13 ≤ 0 := by rw [g.k13]; decide
      have hbb : 130 * sd + (b0 + i) < 260 := by omega
      rw [hC0, hR0]
      rcases p_step ht g (by omega) (by omega) hbd with ⟨a1, a2, a3, a4⟩ | ⟨τ, ν, a2, a3, ⟨k, pl, a4, a5⟩, a6⟩
      · -- a step on
        have s34 : (x_pI μ 0 11 (nI (h + 1))).1 0 34 = nI (130 * sd + (b0 + i)) := by rw [x_pI_1, if_neg (by omega)]; exact e6
        have s34' : (x_pI (x_pI μ 0 11 (nI (h + 1))) 21 (130 * sd + (b0 + i)) 1).1 0 34 = nI (130 * sd + (b0 + i)) := by rw [x_pI_1, if_neg (by omega)]; exact s34
        have s40' : (x_pI (x_pI μ 0 11 (nI (h + 1))) 21 (130 * sd + (b0 + i)) 1).1 0 40 = nI C := by rw [x_pI_1, if_neg (by omega), x_pI_1, if_neg (by omega)]; exact e4
        have g2 : p_R σ0 μ0 P m sd (h + 1) (h + 1) (x_pI σ 14 6 (nI (h + 1))) (x_pI (x_pI (x_pI μ 0 11 (nI (h + 1))) 21 (130 * sd + (b0 + i)) 1) 22 (130 * sd + (b0 + i)) (nI C)) := (a4.pIy (a := 21) (b := 130 * sd + (b0 + i)) (by unfold y_Fs; omega) (by omega) _).pIy (a := 22) (b := 130 * sd + (b0 + i)) (by unfold y_Fs; omega) (by omega) _
        obtain ⟨τ1, ν1, r1, r2⟩ := p_pc (B := 110) (b := 130 * sd + (b0 + i)) (tm := 60) (S := S) (N := N) (C := C) ht g2 (by omega) (by omega) (by omega) (by omega) (by omega) (by rw [x_pI_1, if_neg (by omega)]; exact e1) (by rw [x_pI_1, if_neg (by omega)]; exact e2) (by rw [x_pI_1, if_neg (by omega)]; exact e3) (by rw [x_pI_1, if_neg (by omega)]; exact s40') (by rw [x_pI_1, if_neg (by omega), x_pI_1, if_neg (by omega), x_pI_1, if_neg (by omega)]; exact e5) (by rw [x_pI_1, if_neg (by omega)]; exact s34') (by omega) (by omega)
        have r1' : x_b (F_X9_expression (x_pI (x_pI (x_pI μ 0 11 (nI (h + 1))) 21 (130 * sd + (b0 + i)) 1) 22 (130 * sd + (b0 + i)) (nI C))) (fun _ s => F_X9_must 13 s) = some ((), ν1) := r1
        obtain ⟨⟨⟩, ρ1, x1, m1⟩ := x_b_some r1'
        have hR1 : F_X9_tellLaw_38 (F_X9_tellLaw_12 (f2 + 1)) (nI kq) (nI (130 * sd + b0)) (nI i) μ = x_gd (x_inb (ν1.1 0 34) 260) (x_pt (x_pI ν1 23 (x_ix (ν1.1 0 34)) (ν1.1 0 40)) fun σ20 => if (σ20.1 0 13) = 0 then x_b (F_X9_expression σ20) fun _ σ21 => F_X9_tellLaw_110 (F_X9_tellLaw_12 (f2 + 1)) (nI kq) (nI (130 * sd + b0)) (nI i + (1 : Int32)) σ21 else F_X9_tellLaw_110 (F_X9_tellLaw_12 (f2 + 1)) (nI kq) (nI (130 * sd + b0)) (nI i + (1 : Int32)) σ20) := by
          rw [F_X9_tellLaw_38, if_pos hle, a3, x_b_s, s34, x_gd_t (x_inb_nI hbb (by decide)), x_pt_s, x_ix_nI (by omega), v1, s34', x_gd_t (x_inb_nI hbb (by decide)), x_pt_s, x_ix_nI (by omega), s40', x1, x_b_s, m1, x_b_s]
        rw [a2, x_b_s, if_neg (show ¬ (1 : Int32) = 0 by decide), hR1]
        rcases r2 with ⟨q1, h1, cs1, q2, q3, q4, q5, q6, q7, q8, q9, q10, q11, q12, q13, q14, q15, q16⟩ | ⟨q1, k, pl, q2, q3⟩
        · -- the second piece
          have q1' : F_X4_takePiece 60 (x_pI σ 14 6 (nI (h + 1))) = some (1, τ1) := q1
          have t13 : (x_pI ν1 23 (130 * sd + (b0 + i)) (nI (C + cs1.length))).1 0 13 = 0 := by rw [x_pI_1, if_neg (by omega)]; exact q5.k13
          have g3 : p_R σ0 μ0 P m sd h1 h1 τ1 (x_pI ν1 23 (130 * sd + (b0 + i)) (nI (C + cs1.length))) := q5.pIy (a := 23) (b := 130 * sd + (b0 + i)) (by unfold y_Fs; omega) (by omega) _
          obtain ⟨τ2, ν2, u1, u2⟩ := p_pc (B := 110) (b := 130 * sd + (b0 + i)) (tm := 14) (S := S + cs1.length) (N := N + 1) (C := C + cs1.length) ht g3 (by omega) (by omega) (by omega) (by omega) (by omega) q6 q7 q8 (by rw [x_pI_1, if_neg (by omega)]; exact q9) (by rw [x_pI_1, if_neg (by omega)]; exact q10) (by rw [x_pI_1, if_neg (by omega)]; exact q11) (by omega) (by omega)
          have u1' : x_b (F_X9_expression (x_pI ν1 23 (130 * sd + (b0 + i)) (nI (C + cs1.length)))) (fun _ s => F_X9_must 34 s) = some ((), ν2) := u1
          obtain ⟨⟨⟩, ρ2, x2, m2⟩ := x_b_some u1'
          rw [q1', x_b_s, if_neg (show ¬ (1 : Int32) = 0 by decide), q11, x_gd_t (x_inb_nI hbb (by decide)), x_pt_s, x_ix_nI (by omega), q9, if_pos t13, x2, x_b_s, F_X9_tellLaw_110, m2, x_b_s]
          rcases u2 with ⟨y1, h2, cs2, y2, y3, y4, y5, y6, y7, y8, y9, y10, y11, y12, y13, y14, y15, y16⟩ | ⟨y1, k, pl, y2, y3⟩
          · -- the third
            have y1' : F_X4_takePiece 14 τ1 = some (1, τ2) := y1
            have g4 : p_R σ0 μ0 P m sd h2 h2 τ2 (x_pI ν2 24 (130 * sd + (b0 + i)) (nI (C + cs1.length + cs2.length))) := y5.pIy (a := 24) (b := 130 * sd + (b0 + i)) (by unfold y_Fs; omega) (by omega) _
            obtain ⟨τ3, ν3, z1, z2⟩ := p_pc (B := 110) (b := 130 * sd + (b0 + i)) (tm := 15) (S := S + cs1.length + cs2.length) (N := N + 1 + 1) (C := C + cs1.length + cs2.length) ht g4 (by omega) (by omega) (by omega) (by omega) (by omega) y6 y7 y8 (by rw [x_pI_1, if_neg (by omega)]; exact y9) (by rw [x_pI_1, if_neg (by omega)]; exact y10) (by rw [x_pI_1, if_neg (by omega)]; exact y11) (by omega) (by omega)
            have z1' : x_b (F_X9_term ν2) (fun _ s => F_X9_must 35 s) = F_X9_term_24 ν3 := by
              refine y_term_must (b := 130 * sd + (b0 + i)) y11 hbb y5.k13 ?_
              rw [y9]; exact z1
            rw [y1', x_b_s, if_neg (show ¬ (1 : Int32) = 0 by decide)]
            rcases z2 with ⟨o1, h3, cs3, o2, o3, o4, o5, o6, o7, o8, o9, o10, o11, o12, o13, o14, o15, o16⟩ | ⟨o1, k, pl, o2, o3⟩
            · have o1' : F_X4_takePiece 15 τ2 = some (1, τ3) := o1
              have t24 : F_X9_term_24 ν3 = some ((), x_pI (x_pI ν3 25 (130 * sd + (b0 + i)) (nI (C + cs1.length + cs2.length + cs3.length))) 0 34 (nI (130 * sd + (b0 + i) + 1))) := by
                rw [F_X9_term_24, o11, x_gd_t (x_inb_nI hbb (by decide)), x_pt_s, x_ix_nI (by omega), x_pt_s, x_pI_1, if_neg (by omega), o11, nI_1, o9]
              rw [t24] at z1'
              obtain ⟨⟨⟩, ρ3, x3, m3⟩ := x_b_some z1'
              have f32 : τ3.1 32 kq = nI i := by
                rw [o15.1 32 kq (by omega) (by omega) (by omega) (by omega) (by omega) (by omega), y15.1 32 kq (by omega) (by omega) (by omega) (by omega) (by omega) (by omega), q15.1 32 kq (by omega) (by omega) (by omega) (by omega) (by omega) (by omega), x_pI_1, if_neg (by omega)]; exact l2
              have cadd : F_X1_addIf 28 (nI kq) τ3 = some ((), x_pI τ3 32 kq (nI (i + 1))) := by
                rw [F_X1_addIf, show x_rf TX 28 5 = 32 by decide +kernel, e_at, x_aT_nI _ _ (by rw [lnX_32]; exact hq), x_b_s, f32, nI_1, e_put, x_b_s, x_pT_nI _ _ (by rw [lnX_32]; exact hq)]
              rw [o1', x_b_s, if_neg (show ¬ (1 : Int32) = 0 by decide), cadd, x_b_s, x3, x_b_s, m3, x_b_s, nI_1]
              have fr30 : ∀ b, b ≤ N → τ3.1 30 b = σ.1 30 b := fun b hb => by
                rw [o15.1 30 b (by omega) (by omega) (by omega) (by omega) (by omega) (by omega), y15.1 30 b (by omega) (by omega) (by omega) (by omega) (by omega) (by omega), q15.1 30 b (by omega) (by omega) (by omega) (by omega) (by omega) (by omega), x_pI_1, if_neg (by omega)]
              have fr29 : ∀ b, b < S → τ3.1 29 b = σ.1 29 b := fun b hb => by
                rw [o15.1 29 b (by omega) (by omega) (by omega) (by omega) (by omega) (by omega), y15.1 29 b (by omega) (by omega) (by omega) (by omega) (by omega) (by omega), q15.1 29 b (by omega) (by omega) (by omega) (by omega) (by omega) (by omega), x_pI_1, if_neg (by omega)]
              have fr31 : ∀ k, τ3.1 31 k = σ.1 31 k := fun k => by
                rw [o15.1 31 k (by omega) (by omega) (by omega) (by omega) (by omega) (by omega), y15.1 31 k (by omega) (by omega) (by omega) (by omega) (by omega) (by omega), q15.1 31 k (by omega) (by omega) (by omega) (by omega) (by omega) (by omega), x_pI_1, if_neg (by omega)]
              have fr32 : ∀ k, τ3.1 32 k = σ.1 32 k := fun k => by
                rw [o15.1 32 k (by omega) (by omega) (by omega) (by omega) (by omega) (by omega), y15.1 32 k (by omega) (by omega) (by omega) (by omega) (by omega) (by omega), q15.1 32 k (by omega) (by omega) (by omega) (by omega) (by omega) (by omega), x_pI_1, if_neg (by omega)]
              have y3of : ∀ a j, 19 ≤ a → a ≤ 27 → a < 26 ∨ j < C + cs1.length + cs2.length → ¬ (a = 25 ∧ j = 130 * sd + (b0 + i)) → (x_pI (x_pI ν3 25 (130 * sd + (b0 + i)) (nI (C + cs1.length + cs2.length + cs3.length))) 0 34 (nI (130 * sd + (b0 + i) + 1))).1 a j = (x_pI ν2 24 (130 * sd + (b0 + i)) (nI (C + cs1.length + cs2.length))).1 a j := fun a j v1 v2 v3 v4 => by
                rw [x_pI_1, if_neg (by omega), x_pI_1, if_neg (by omega), o16.1 _ _ (by omega) (by omega) (by omega)]
              have y2of : ∀ a j, 19 ≤ a → a ≤ 27 → a < 26 ∨ j < C + cs1.length → ν2.1 a j = (x_pI ν1 23 (130 * sd + (b0 + i)) (nI (C + cs1.length))).1 a j := fun a j v1 v2 v3 => y16.1 _ _ (by omega) (by omega) (by omega)
              have y1of : ∀ a j, 19 ≤ a → a ≤ 27 → a < 26 ∨ j < C → ν1.1 a j = (x_pI (x_pI (x_pI μ 0 11 (nI (h + 1))) 21 (130 * sd + (b0 + i)) 1) 22 (130 * sd + (b0 + i)) (nI C)).1 a j := fun a j v1 v2 v3 => q16.1 _ _ (by omega) (by omega) (by omega)
              have yall : ∀ a j, 19 ≤ a → a ≤ 27 → (26 ≤ a ∧ j < C) ∨ (a ≤ 25 ∧ (a < 21 ∨ j ≠ 130 * sd + (b0 + i))) → (x_pI (x_pI ν3 25 (130 * sd + (b0 + i)) (nI (C + cs1.length + cs2.length + cs3.length))) 0 34 (nI (130 * sd + (b0 + i) + 1))).1 a j = μ.1 a j := fun a j v1 v2 v3 => by
                rw [y3of a j v1 v2 (by omega) (by omega), x_pI_1, if_neg (by omega), y2of a j v1 v2 (by omega), x_pI_1, if_neg (by omega), y1of a j v1 v2 (by omega), x_pI_1, if_neg (by omega), x_pI_1, if_neg (by omega), x_pI_1, if_neg (by omega)]
              have r21 : (x_pI (x_pI ν3 25 (130 * sd + (b0 + i)) (nI (C + cs1.length + cs2.length + cs3.length))) 0 34 (nI (130 * sd + (b0 + i) + 1))).1 21 (130 * sd + (b0 + i)) = 1 := by
                rw [y3of _ _ (by omega) (by omega) (by omega) (by omega), x_pI_1, if_neg (by omega), y2of _ _ (by omega) (by omega) (by omega), x_pI_1, if_neg (by omega), y1of _ _ (by omega) (by omega) (by omega), x_pI_1, if_neg (by omega), x_pI_1, if_pos ⟨rfl, rfl⟩]
              have r22 : (x_pI (x_pI ν3 25 (130 * sd + (b0 + i)) (nI (C + cs1.length + cs2.length + cs3.length))) 0 34 (nI (130 * sd + (b0 + i) + 1))).1 22 (130 * sd + (b0 + i)) = nI C := by
                rw [y3of _ _ (by omega) (by omega) (by omega) (by omega), x_pI_1, if_neg (by omega), y2of _ _ (by omega) (by omega) (by omega), x_pI_1, if_neg (by omega), y1of _ _ (by omega) (by omega) (by omega), x_pI_1, if_pos ⟨rfl, rfl⟩]
              have r23 : (x_pI (x_pI ν3 25 (130 * sd + (b0 + i)) (nI (C + cs1.length + cs2.length + cs3.length))) 0 34 (nI (130 * sd + (b0 + i) + 1))).1 23 (130 * sd + (b0 + i)) = nI (C + cs1.length) := by
                rw [y3of _ _ (by omega) (by omega) (by omega) (by omega), x_pI_1, if_neg (by omega), y2of _ _ (by omega) (by omega) (by omega), x_pI_1, if_pos ⟨rfl, rfl⟩]
              have r24 : (x_pI (x_pI ν3 25 (130 * sd + (b0 + i)) (nI (C + cs1.length + cs2.length + cs3.length))) 0 34 (nI (130 * sd + (b0 + i) + 1))).1 24 (130 * sd + (b0 + i)) = nI (C + cs1.length + cs2.length) := by
                rw [y3of _ _ (by omega) (by omega) (by omega) (by omega), x_pI_1, if_pos ⟨rfl, rfl⟩]
              have r25 : (x_pI (x_pI ν3 25 (130 * sd + (b0 + i)) (nI (C + cs1.length + cs2.length + cs3.length))) 0 34 (nI (130 * sd + (b0 + i) + 1))).1 25 (130 * sd + (b0 + i)) = nI (C + cs1.length + cs2.length + cs3.length) := by
                rw [x_pI_1, if_neg (by omega), x_pI_1, if_pos ⟨rfl, rfl⟩]
              have bq : 130 * sd + b0 + qs.length = 130 * sd + (b0 + i) := by omega
              have new : p_LS σ0 μ0 P m sd kq p0 b0 (i + 1) L (qs ++ [(cs1, cs2, cs3)]) h3 (S + cs1.length + cs2.length + cs3.length) (N + 1 + 1 + 1) (C + cs1.length + cs2.length + cs3.length) (x_pI τ3 32 kq (nI (i + 1))) (x_pI (x_pI ν3 25 (130 * sd + (b0 + i)) (nI (C + cs1.length + cs2.length + cs3.length))) 0 34 (nI (130 * sd + (b0 + i) + 1))) := by
                refine ⟨((o5.pIc (a := 32) (b := kq) (by omega) _).pIy (a := 25) (b := 130 * sd + (b0 + i)) (by unfold y_Fs; omega) (by omega) _).pIy (a := 0) (b := 34) (by unfold y_Fs; omega) (by omega) _, ⟨by omega, by omega, by omega, by omega⟩, ⟨?_, ?_, ?_⟩, ⟨?_, ?_, ?_, 0, by omega, ?_, Or.inl rfl⟩, ⟨by omega, by simp; omega, by omega⟩, ⟨?_, ?_⟩, ?_, ?_, ?_, ?_⟩
                · rw [x_pI_1, if_neg (by omega)]; exact o6
                · rw [x_pI_1, if_neg (by omega)]; exact o7
                · rw [x_pI_1, if_neg (by omega)]; exact o8
                · rw [x_pI_1, if_neg (by omega), x_pI_1, if_neg (by omega)]; exact o9
                · rw [x_pI_1, if_neg (by omega), x_pI_1, if_neg (by omega)]; exact o10
                · rw [x_pI_1, if_pos ⟨rfl, rfl⟩]; exact congrArg nI (by omega)
                · rw [x_pI_1, if_neg (by omega), x_pI_1, if_neg (by omega)]; exact o12
                · rw [x_pI_1, if_neg (by omega), fr31]; exact l1
                · rw [x_pI_1, if_pos ⟨rfl, rfl⟩]
                · have w30 : ∀ b, (x_pI τ3 32 kq (nI (i + 1))).1 30 b = τ3.1 30 b := fun b => by rw [x_pI_1, if_neg (by omega)]
                  have w29 : ∀ b, (x_pI τ3 32 kq (nI (i + 1))).1 29 b = τ3.1 29 b := fun b => by rw [x_pI_1, if_neg (by omega)]
                  refine c_pre.snoc qs p0 (c1.ag (by omega) (by omega) (fun b hb => by rw [w30, fr30 b hb]) (fun b hb => by rw [w29, fr29 b hb])) ?_ ?_ ?_
                  · rw [n2, ← n1]
                    exact q13.ag (by omega) (by omega) (fun b hb => by rw [w30, o15.1 30 b (by omega) (by omega) (by omega) (by omega) (by omega) (by omega), y15.1 30 b (by omega) (by omega) (by omega) (by omega) (by omega) (by omega)]) (fun b hb => by rw [w29, o15.1 29 b (by omega) (by omega) (by omega) (by omega) (by omega) (by omega), y15.1 29 b (by omega) (by omega) (by omega) (by omega) (by omega) (by omega)])
                  · rw [n2, ← n1]
                    exact y13.ag (by omega) (by omega) (fun b hb => by rw [w30, o15.1 30 b (by omega) (by omega) (by omega) (by omega) (by omega) (by omega)]) (fun b hb => by rw [w29, o15.1 29 b (by omega) (by omega) (by omega) (by omega) (by omega) (by omega)])
                  · rw [n2, ← n1]
                    exact o13.ag (by omega) (by omega) (fun b hb => w30 b) (fun b hb => w29 b)
                · refine y_pre.snoc qs _ (c2.ag (by omega) (fun a b v1 v2 v3 => yall a b (by omega) v2 (Or.inl ⟨v1, v3⟩)) _ _ (fun a j v1 v2 v3 v4 => yall a j (by omega) (by omega) (Or.inr ⟨by omega, Or.inr (by omega)⟩))) ?_
                  rw [bq, r21, r22, r23, r24, r25]
                  refine ⟨rfl, q14.ag (by omega) (fun a b v1 v2 v3 => ?_), y14.ag (by omega) (fun a b v1 v2 v3 => ?_), o14.ag (by omega) (fun a b v1 v2 v3 => ?_)⟩
                  · rw [y3of a b (by omega) v2 (by omega) (by omega), x_pI_1, if_neg (by omega), y2of a b (by omega) v2 (by omega), x_pI_1, if_neg (by omega)]
                  · rw [y3of a b (by omega) v2 (by omega) (by omega), x_pI_1, if_neg (by omega)]
                  · rw [x_pI_1, if_neg (by omega), x_pI_1, if_neg (by omega)]
                · exact c3.ag (by omega) (by omega) (fun b hb => by rw [x_pI_1, if_neg (by omega), fr30 b hb]) (fun b hb => by rw [x_pI_1, if_neg (by omega), fr29 b hb]) (fun k v1 v2 => ⟨v2, by rw [x_pI_1, if_neg (by omega), fr31], by rw [x_pI_1, if_neg (by omega), fr32]⟩)
                · exact c4.ag (by omega) (Nat.le_refl _) (fun a b v1 v2 v3 => yall a b (by omega) v2 (Or.inl ⟨v1, v3⟩)) (fun a j v1 v2 v3 v4 => yall a j (by omega) (by omega) (Or.inr ⟨by omega, Or.inr (by omega)⟩)) (fun k v1 v2 => ⟨v2, yall 19 _ (by omega) (by omega) (Or.inr ⟨by omega, Or.inl (by omega)⟩), yall 20 _ (by omega) (by omega) (Or.inr ⟨by omega, Or.inl (by omega)⟩)⟩)
              obtain ⟨τ', ν', s1, s2⟩ := ih (i + 1) (by omega) f (f2 + 1) h3 _ _ _ _ _ _ new (by omega) (by omega)
              refine ⟨τ', ν', s1, ?_⟩
              rcases s2 with ⟨c, h', S', N', C', bn', qz, t1, t2, t3, t4, t5, t6, t7⟩ | s2
              · refine Or.inl ⟨c, h', S', N', C', bn', qz, t1, by omega, t3, t4, t5, ?_, ?_⟩
                · exact (((((c_lf.pI σ (a := 14) (b := 6) (by omega) _).tr q15.lf).tr y15.lf).tr o15.lf).tr (c_lf.pI τ3 (a := 32) (b := kq) (by omega) _)).tr t6
                · exact ((((((((((y_lf.pI μ (a := 0) (b := 11) (by omega) _).tr (y_lf.pI _ (a := 21) (b := 130 * sd + (b0 + i)) (by omega) _)).tr (y_lf.pI _ (a := 22) (b := 130 * sd + (b0 + i)) (by omega) _)).tr q16.lf).tr (y_lf.pI _ (a := 23) (b := 130 * sd + (b0 + i)) (by omega) _)).tr y16.lf).tr (y_lf.pI _ (a := 24) (b := 130 * sd + (b0 + i)) (by omega) _)).tr o16.lf).tr (y_lf.pI _ (a := 25) (b := 130 * sd + (b0 + i)) (by omega) _)).tr (y_lf.pI _ (a := 0) (b := 34) (by omega) _)).tr t7
              · exact Or.inr s2
            · have o1' : F_X4_takePiece 15 τ2 = some (0, τ3) := o1
              obtain ⟨ρ, s1, s2⟩ := o3.term24 (by omega)
              rw [s1] at z1'
              obtain ⟨⟨⟩, ρ3, x3, m3⟩ := x_b_some z1'
              obtain ⟨ρ', s3, s4⟩ := s2.law12 (by omega) f2 (nI kq) (nI (130 * sd + b0)) (nI i + 1)
              exact ⟨τ3, ρ', by rw [x3, x_b_s, m3, x_b_s, s3], Or.inr ⟨by rw [o1', x_b_s, if_pos rfl], k, pl, o2, s4.mono (by omega)⟩⟩
          · have y1' : F_X4_takePiece 14 τ1 = some (0, τ2) := y1
            obtain ⟨ρ, s1, s2⟩ := y3.term (by omega)
            obtain ⟨ρ', s3, s4⟩ := s2.law12 (by omega) f2 (nI kq) (nI (130 * sd + b0)) (nI i + 1)
            exact ⟨τ2, ρ', by rw [s1, x_b_s, s2.must, x_b_s, s3], Or.inr ⟨by rw [y1', x_b_s, if_pos rfl], k, pl, y2, s4.mono (by omega)⟩⟩
        · have q1' : F_X4_takePiece 60 (x_pI σ 14 6 (nI (h + 1))) = some (0, τ1) := q1
          obtain ⟨b', v2, v3, v4⟩ := q3.hb
          have q4 : y_X sd μ0 k pl 110 (x_pI ν1 23 b' (ν1.1 0 40)) := q3.pI (by unfold y_Fs; omega) (by omega) _
          obtain ⟨ρ', s3, s4⟩ := q4.law110 (by omega) f2 (nI kq) (nI (130 * sd + b0)) (nI i + 1)
          exact ⟨τ1, ρ', by rw [v4, x_gd_t (x_inb_nI (by omega) (by decide)), x_pt_s, x_ix_nI (by omega), if_neg q4.n0, s3], Or.inr ⟨by rw [q1', x_b_s, if_pos rfl], k, pl, q2, s4.mono (by omega)⟩⟩
      · obtain ⟨b', v2, v3, v4⟩ := a5.hb
        have q4 : y_X sd μ0 k pl 110 (x_pI ν 21 b' 1) := a5.pI (by unfold y_Fs; omega) (by omega) _
        have v4' : (x_pI ν 21 b' 1).1 0 34 = nI b' := by rw [x_pI_1, if_neg (by omega)]; exact v4
        have q5 : y_X sd μ0 k pl 110 (x_pI (x_pI ν 21 b' 1) 22 b' ((x_pI ν 21 b' 1).1 0 40)) := q4.pI (by unfold y_Fs; omega) (by omega) _
        obtain ⟨ρ1, x1, x2⟩ := q5.xp
        obtain ⟨b'', v5, v6, v7⟩ := x2.hb
        have q6 : y_X sd μ0 k pl 110 (x_pI ρ1 23 b'' (ρ1.1 0 40)) := x2.pI (by unfold y_Fs; omega) (by omega) _
        obtain ⟨ρ', s3, s4⟩ := q6.law110 (by omega) f2 (nI kq) (nI (130 * sd + b0)) (nI i + 1)
        refine ⟨τ, ρ', ?_, Or.inr ⟨by rw [a2, x_b_s, if_pos rfl], k, pl, a4, s4.mono (by omega)⟩⟩
        rw [F_X9_tellLaw_38, if_pos hle, a3, x_b_s, v4, x_gd_t (x_inb_nI (by omega) (by decide)), x_pt_s, x_ix_nI (by omega), v1, v4', x_gd_t (x_inb_nI (by omega) (by decide)), x_pt_s, x_ix_nI (by omega), x1, x_b_s, x2.must, x_b_s, v7, x_gd_t (x_inb_nI (by omega) (by decide)), x_pt_s, x_ix_nI (by omega), if_neg q6.n0, s3]
    · obtain ⟨τ, ν, r1, r2⟩ := p_end (B := 110) ht g hq b1 b2 b3 b4 e1 e2 e3 e4 e5 e6 n1 n2 n3 l1 l2 c1 c2 c3 c4 (by omega) (by omega)
      have hc : F_X4_tellLaw_31 (f + 1) (nI kq) (nI i) σ = F_X4_tellLaw_109 σ := by
        rw [F_X4_tellLaw_31, if_neg (show ¬ (4 : Int32) < nI i from nI_nlt (a := 4) (by omega) (by decide)), g.kind ht, x_b_s, if_neg (show ¬ nI (K h) = (13 : Int32) from fun w => z ((nI_eq (b := 13) (by omega) (by decide)).mp w))]
      refine ⟨τ, ν, by rw [F_X9_tellLaw_12, if_pos g.k13, i33, if_neg z, x_b_s, if_pos rfl, r1], ?_⟩
      rcases r2 with ⟨c, h', S', N', C', zz, a1, a2, a3, a4, a5, a6, a7⟩ | ⟨c, a⟩
      · exact Or.inl ⟨by rw [hc, c], h', S', N', C', _, _, a1, by omega, a3, a4, a5, a6, a7⟩
      · exact Or.inr ⟨by rw [hc, c], a.mono (by omega)⟩
end LAW3
