/-! READING: first, again, seed, both -/
/-- what a told line comes to -/
def p_GO (σ0 μ0 : x_Hp) (P : Nat → Nat) (m sd h : Nat) (cl : Option (Int32 × x_Hp)) (rf : Option (Unit × x_Hp)) : Prop := ∃ τ ν, rf = some ((), ν) ∧ ((cl = some (1, τ) ∧ ∃ h' S' N' C' bn' L' A', h' ≤ 400 ∧ h < h' ∧ p_R σ0 μ0 P m sd h' h' τ ν ∧ p_TL sd S' N' C' bn' h' 7 L' τ ν ∧ 4 * bn' ≤ h' ∧ p_TN sd A' τ ν) ∨ (cl = some (0, τ) ∧ p_bad σ0 μ0 sd 120 τ ν))
theorem p_TL.ag {sd S N C bn h h' ex : Nat} {L : x_LW} {σ μ τ ν : x_Hp} (t : p_TL sd S N C bn h ex L σ μ) (hh : h ≤ h') (h1 : ∀ a b, 28 ≤ a → a ≤ 32 → τ.1 a b = σ.1 a b) (h2 : ∀ a b, (a = 0 ∧ (b = 12 ∨ b = 34 ∨ b = 40 ∨ b = 44)) ∨ (19 ≤ a ∧ a ≤ 27) → ν.1 a b = μ.1 a b) : p_TL sd S N C bn h' ex L τ ν := by
  obtain ⟨b1, b2, b3, b4, e1, e2, e3, e4, e5, e6, ⟨w, w1, w2, w3⟩, c3, c4⟩ := t
  refine ⟨by omega, by omega, b3, by omega, by rw [h1 _ _ (by omega) (by omega)]; exact e1, by rw [h1 _ _ (by omega) (by omega)]; exact e2, by rw [h1 _ _ (by omega) (by omega)]; exact e3, by rw [h2 _ _ (by omega)]; exact e4, by rw [h2 _ _ (by omega)]; exact e5, by rw [h2 _ _ (by omega)]; exact e6, ⟨w, w1, by rw [h2 _ _ (by omega)]; exact w2, w3⟩, ?_, ?_⟩
  · exact c3.ag (Nat.le_refl _) (Nat.le_refl _) (fun b _ => h1 _ _ (by omega) (by omega)) (fun b _ => h1 _ _ (by omega) (by omega)) (fun k v1 v2 => ⟨v2, h1 _ _ (by omega) (by omega), h1 _ _ (by omega) (by omega)⟩)
  · exact c4.ag (Nat.le_refl _) (Nat.le_refl _) (fun a b _ _ _ => h2 _ _ (by omega)) (fun a j _ _ _ _ => h2 _ _ (by omega)) (fun k v1 v2 => ⟨v2, h2 _ _ (by omega), h2 _ _ (by omega)⟩)
theorem p_TN.ag {sd N : Nat} {σ μ τ ν : x_Hp} (t : p_TN sd N σ μ) (h1 : ∀ a b, 21 ≤ a → a ≤ 27 → τ.1 a b = σ.1 a b) (h2 : ∀ a b, (a = 0 ∧ b = 20) ∨ (9 ≤ a ∧ a ≤ 18) → ν.1 a b = μ.1 a b) (h3 : ∀ b, τ.2 22 b = σ.2 22 b) (h4 : ∀ b, ν.2 8 b = μ.2 8 b) (h5 : τ.1 14 10 = 0 → σ.1 14 10 = 0) : p_TN sd N τ ν := by
  obtain ⟨a1, a2, a3, a4, a5, a6, a7, a8, a9, a10⟩ := t
  refine ⟨a1, by rw [h1 _ _ (by omega) (by omega)]; exact a2, by rw [h2 _ _ (by omega)]; exact a3, by rw [h2 _ _ (by omega)]; exact a4, fun a ha => ?_, by rw [h2 _ _ (by omega), h1 _ _ (by omega) (by omega)]; exact a6, by rw [h2 _ _ (by omega), h1 _ _ (by omega) (by omega)]; exact a7, by rw [h2 _ _ (by omega), h1 _ _ (by omega) (by omega)]; exact a8, fun k hk => by rw [h2 _ _ (by omega), h1 _ _ (by omega) (by omega)]; exact a9 k hk, fun e => ?_⟩
  · rw [h3, h4, h2 11 _ (by omega), h2 12 _ (by omega), h2 13 _ (by omega), h2 14 _ (by omega), h2 15 _ (by omega), h1 23 _ (by omega) (by omega), h1 24 _ (by omega) (by omega), h1 25 _ (by omega) (by omega), h1 26 _ (by omega) (by omega), h1 27 _ (by omega) (by omega)]
    exact a5 a ha
  · obtain ⟨x1, x2, x3⟩ := a10 (h5 e)
    exact ⟨by rw [h1 _ _ (by omega) (by omega)]; exact x1, by rw [h1 _ _ (by omega) (by omega)]; exact x2, fun k hk => by rw [h1 _ _ (by omega) (by omega)]; exact x3 k hk⟩
section NUM2
variable {σ0 μ0 : x_Hp} {K P : Nat → Nat} {m sd : Nat}
theorem p_number (ht : t_fin σ0 μ0 K P m) {h S N C bn A fl mx : Nat} {L : x_LW} {σ μ : x_Hp} (hfl : (fl = 4 ∧ mx = 99) ∨ (fl = 5 ∧ mx = 99) ∨ (fl = 6 ∧ mx = 9999)) (hb4 : 4 * bn ≤ h) (g : p_R σ0 μ0 P m sd h h σ μ) (hK : K h = fl + 5) (t : p_TL sd S N C bn h 7 L σ μ) (tn : p_TN sd A σ μ) : p_GO σ0 μ0 P m sd h (F_X4_tellNumber (nI (fl + 5)) σ) (x_b (F_X9_goesOn μ) fun _ σ5 => x_b (F_X9_bounded (0 : Int32) (nI mx) σ5) fun v6 σ6 => x_gd (x_inb (σ5.1 0 19) 2) <| x_pt (x_pI σ6 (12 + fl) (x_ix (σ5.1 0 19)) v6) fun σ8 => x_b (F_X9_must (4 : Int32) σ8) fun _ σ9 => some ((), σ9)) := by
  have h4 := g.2.2.2.1
  have hsd := g.2.2.1
  have hbd := t.bd h4.1 hb4
  have h19 : ∀ (q hh : Nat) (ρ κ : x_Hp), p_R σ0 μ0 P m sd q hh ρ κ → κ.1 0 19 = nI sd := fun q hh ρ κ gg => gg.2.2.2.2.2.2.2.2
  rcases p_step ht g (by omega) (by omega) hbd with ⟨a1, a2, a3, a4⟩ | ⟨τ, ν, a2, a3, ⟨k, pl, a4, a5⟩, a6⟩
  · have hbd2 : y_bd sd 110 (x_pI μ 0 11 (nI (h + 1))) := hbd.hd (y_hd.pI μ (by omega) _)
    obtain ⟨τ, ν, v, r1, r2⟩ := p_num (B := 110) ht a4 hbd2 (show mx ≤ 9999 by omega) (show 0 < 1 by decide) (by decide) (x_fuel - 1)
    have hc : F_X4_tellNumber (nI (fl + 5)) σ = x_b (F_X4_takeNumbers_3 x_fuel (nI 1) (nI mx) (nI 0) (x_pI σ 14 6 (nI (h + 1)))) (fun v2 σ2 => if v2 = 0 then some ((0 : Int32), σ2) else x_b (F_X8_at 19 (0 : Int32) σ2) fun v3 σ3 => F_X4_tellNumber_83 (x_pI σ3 21 fl v3)) := by
      rw [F_X4_tellNumber, a2, x_b_s, if_neg (show ¬ (1 : Int32) = 0 by decide)]
      rcases hfl with ⟨rfl, rfl⟩ | ⟨rfl, rfl⟩ | ⟨rfl, rfl⟩ <;> rfl
    rw [hc, a3, x_b_s, r1, x_b_s, h19 _ _ _ _ a4, x_gd_t (x_inb_nI hsd (by decide)), x_pt_s, x_ix_nI (by omega)]
    have fe : x_fuel - 1 + 1 = x_fuel := rfl
    rw [fe] at r2
    rcases r2 with ⟨c, wv, w1, w2, w3, w4, w5, w6, w7, w8⟩ | ⟨c, k, pl, w1, w2⟩
    · have c2 : F_X4_takeNumbers_3 (x_fuel - 1) (nI 1) (nI mx) (nI (0 + 1)) τ = some (1, τ) := c_num_end (x_fuel - 2) (by decide) (by decide) _ τ
      have g3 : p_R σ0 μ0 P m sd (h + 1 + 1) (h + 1 + 1) (x_pI τ 21 fl (nI wv)) (x_pI ν (12 + fl) sd v) := (w3.pIc (by omega) _).pIy (a := 12 + fl) (b := sd) (by unfold y_Fs; omega) (by omega) _
      have hbd3 : y_bd sd 110 (x_pI ν (12 + fl) sd v) := by
        obtain ⟨⟨b, b1, b2, b3⟩, w, c, v1, v2, v3, v4, v5⟩ := hbd2.hd w5
        exact ⟨⟨b, b1, b2, by rw [x_pI_1, if_neg (by omega)]; exact b3⟩, w, c, v1, by rw [x_pI_1, if_neg (by omega)]; exact v2, v3, v4, by rw [x_pI_1, if_neg (by omega)]; exact v5⟩
      rw [c, c2, x_b_s, if_neg (show ¬ (1 : Int32) = 0 by decide), e_at, show (0 : Int32) = nI 0 from rfl, x_aT_nI _ _ (by rw [lnX_19]; decide), w6, x_b_s, F_X4_tellNumber_83]
      have fc : ∀ a b x, ¬ (a = 14 ∧ (b = 6 ∨ b = 10 ∨ b = 11)) → a ≠ 19 → ¬ (a = 21 ∧ b = fl) → (x_pI (x_pI τ 21 fl (nI wv)) 14 6 x).1 a b = σ.1 a b := fun a b x z1 z2 z3 => by
        rw [x_pI_1, if_neg (by omega), x_pI_1, if_neg z3, w4.1 a b z2 z1, x_pI_1, if_neg (by omega)]
      have fy : ∀ a b x, ¬ (a = 0 ∧ (b = 11 ∨ (13 ≤ b ∧ b ≤ 16))) → ¬ (a = 12 + fl ∧ b = sd) → (x_pI (x_pI ν (12 + fl) sd v) 0 11 x).1 a b = μ.1 a b := fun a b x z1 z2 => by
        rw [x_pI_1, if_neg (by omega), x_pI_1, if_neg z2, w5.1 a b z1, x_pI_1, if_neg (by omega)]
      rcases p_must ht g3 (by omega) hbd3 (kc := 59) (by unfold n_kd; omega) (by decide) with ⟨m1, m2, m3, m4, m5⟩ | ⟨τ', ν', m3, m4, m5⟩
      · have m3' : F_X4_take_ 59 (x_pI τ 21 fl (nI wv)) = _ := m3
        have m4' : F_X9_must 4 (x_pI ν (12 + fl) sd v) = _ := m4
        refine ⟨_, _, by rw [m4', x_b_s], Or.inl ⟨by rw [m3', x_b_s, x_gd_t (by decide)], h + 1 + 1 + 1, S, N, C, bn, L, A, by omega, by omega, m5, t.ag (by omega) (fun a b q1 q2 => fc a b _ (by omega) (by omega) (by omega)) (fun a b q => fy a b _ (by omega) (by omega)), by omega, ?_⟩⟩
        obtain ⟨t1, t2, t3, t4, t5, t6, t7, t8, t9, t10⟩ := tn
        have cfl : ∀ x, (x_pI (x_pI τ 21 fl (nI wv)) 14 6 x).1 21 fl = nI wv := fun x => by rw [x_pI_1, if_neg (by omega), x_pI_1, if_pos ⟨rfl, rfl⟩]
        have yfl : ∀ x, (x_pI (x_pI ν (12 + fl) sd v) 0 11 x).1 (12 + fl) sd = nI wv := fun x => by rw [x_pI_1, if_neg (by omega), x_pI_1, if_pos ⟨rfl, rfl⟩, w2]
        have pick : ∀ j, (j = 4 ∨ j = 5 ∨ j = 6) → μ.1 (12 + j) sd = σ.1 21 j → (x_pI (x_pI ν (12 + fl) sd v) 0 11 (nI (h + 1 + 1 + 1))).1 (12 + j) sd = (x_pI (x_pI τ 21 fl (nI wv)) 14 6 (nI (h + 1 + 1 + 1))).1 21 j := fun j hj e => by
          by_cases y : j = fl
          · subst y; rw [yfl, cfl]
          · rw [fy _ _ _ (by omega) (by omega), fc _ _ _ (by omega) (by omega) (by omega), e]
        refine ⟨t1, by rw [fc _ _ _ (by omega) (by omega) (by omega)]; exact t2, by rw [fy _ _ _ (by omega) (by omega)]; exact t3, by rw [fy _ _ _ (by omega) (by omega)]; exact t4, fun a ha => ?_, pick 4 (by omega) t6, pick 5 (by omega) t7, pick 6 (by omega) t8, fun k hk => by rw [fy _ _ _ (by omega) (by omega), fc _ _ _ (by omega) (by omega) (by omega)]; exact t9 k hk, fun e => ?_⟩
        · obtain ⟨u1, u2, u3, u4, u5, u6, u7⟩ := t5 a ha
          have l22 : (x_pI (x_pI τ 21 fl (nI wv)) 14 6 (nI (h + 1 + 1 + 1))).2 22 a = σ.2 22 a := by rw [x_pI_2, x_pI_2, w4.2, x_pI_2]
          have l8 : (x_pI (x_pI ν (12 + fl) sd v) 0 11 (nI (h + 1 + 1 + 1))).2 8 a = μ.2 8 a := by rw [x_pI_2, x_pI_2, w5.2, x_pI_2]
          refine ⟨by rw [l22, l8]; exact u1, ?_, ?_, ?_, ?_, ?_, ?_⟩
          · rw [fy _ _ _ (by omega) (by omega), fc _ _ _ (by omega) (by omega) (by omega)]; exact u2
          · rw [fy _ _ _ (by omega) (by omega), fc _ _ _ (by omega) (by omega) (by omega)]; exact u3
          · rw [fy _ _ _ (by omega) (by omega), fc _ _ _ (by omega) (by omega) (by omega)]; exact u4
          · rw [fy _ _ _ (by omega) (by omega), fc _ _ _ (by omega) (by omega) (by omega)]; exact u5
          · rw [fy _ _ _ (by omega) (by omega), fc _ _ _ (by omega) (by omega) (by omega)]; exact u6
          · rw [fc _ _ _ (by omega) (by omega) (by omega)]; exact u7
        · rw [x_pI_1, if_neg (by omega), x_pI_1, if_neg (by omega)] at e
          obtain ⟨x1, x2⟩ := w8 e
          rw [x_pI_1, if_neg (by omega)] at x2
          obtain ⟨y1, y2, y3⟩ := t10 x2
          refine ⟨?_, ?_, fun k hk => ?_⟩
          · by_cases y : fl = 4
            · subst y; exact ⟨wv, by omega, cfl _⟩
            · rw [fc _ _ _ (by omega) (by omega) (by omega)]; exact y1
          · by_cases y : fl = 5
            · subst y; exact ⟨wv, by omega, cfl _⟩
            · rw [fc _ _ _ (by omega) (by omega) (by omega)]; exact y2
          · rw [fc _ _ _ (by omega) (by omega) (by omega)]; exact y3 k hk
      · have m3' : F_X4_take_ 59 (x_pI τ 21 fl (nI wv)) = _ := m3
        have m4' : F_X9_must 4 (x_pI ν (12 + fl) sd v) = _ := m4
        exact ⟨τ', ν', by rw [m4', x_b_s], Or.inr ⟨by rw [m3', x_b_s, x_gd_t (by decide)], m5.mono (by omega)⟩⟩
    · have q4 : y_X sd μ0 k pl 110 (x_pI ν (12 + fl) sd v) := w2.pI (by unfold y_Fs; omega) (by omega) _
      exact ⟨τ, _, by rw [q4.must, x_b_s], Or.inr ⟨by rw [c, x_b_s, if_pos rfl], k, pl, w1, q4.mono (by omega)⟩⟩
  · have q4 : ∀ v, y_X sd μ0 k pl 110 (x_pI ν (12 + fl) sd v) := fun v => a5.pI (by unfold y_Fs; omega) (by omega) _
    exact ⟨τ, _, by rw [a3, x_b_s, a5.bounded, x_b_s, a5.e19, x_gd_t (x_inb_nI hsd (by decide)), x_pt_s, x_ix_nI (by omega), (q4 0).must, x_b_s], Or.inr ⟨by rw [F_X4_tellNumber, a2, x_b_s, if_pos rfl], k, pl, a4, (q4 0).mono (by omega)⟩⟩
end NUM2
