/-! READING: the baby's numbers, both -/
def y_b9 (sd : Nat) (μ τ : x_Hp) : Prop := (∀ a b, ¬ (a = 0 ∧ (b = 11 ∨ (13 ≤ b ∧ b ≤ 16))) → ¬ (a = 9 ∧ 4 * sd ≤ b ∧ b < 4 * sd + 4) → τ.1 a b = μ.1 a b) ∧ ∀ a b, τ.2 a b = μ.2 a b
theorem c_baby32 (s : Int32) (hs : x_isz s = true) (σ : x_Hp) : F_X4_tellBaby_32 s σ = some (s, x_pI (x_pI (x_pI (x_pI σ 21 0 (σ.1 19 0)) 21 1 (σ.1 19 1)) 21 2 (σ.1 19 2)) 21 3 (σ.1 19 3)) := by
  have e : ∀ k, k < 4 → x_aT σ 19 (nI k) = σ.1 19 k := fun k hk => x_aT_nI _ _ (by rw [lnX_19]; exact hk)
  rw [F_X4_tellBaby_32, e_at, show (0 : Int32) = nI 0 from rfl, e 0 (by decide), x_b_s, e_at, show (1 : Int32) = nI 1 from rfl, e 1 (by decide), x_b_s, e_at, show (2 : Int32) = nI 2 from rfl, e 2 (by decide), x_b_s, e_at, show (3 : Int32) = nI 3 from rfl, e 3 (by decide), x_b_s, F_X6_tellBaby, x_pt_s, x_pt_s, x_pt_s, x_pt_s, x_b_s, x_gd_t hs]
section BABY
variable {σ0 μ0 : x_Hp} {K P : Nat → Nat} {m sd : Nat}
theorem p_bad.baby {B : Nat} {σ μ : x_Hp} (h : p_bad σ0 μ0 sd B σ μ) (a b c d : Int32) : p_bad σ0 μ0 sd B (x_pI (x_pI (x_pI (x_pI σ 21 0 a) 21 1 b) 21 2 c) 21 3 d) μ := by
  obtain ⟨k, pl, ⟨h1, h2, h3⟩, h4⟩ := h
  exact ⟨k, pl, ⟨(((h1.pI (by omega) _).pI (by omega) _).pI (by omega) _).pI (by omega) _, by rw [x_pI_1, if_neg (by omega), x_pI_1, if_neg (by omega), x_pI_1, if_neg (by omega), x_pI_1, if_neg (by omega)]; exact h2, by rw [x_pI_1, if_neg (by omega), x_pI_1, if_neg (by omega), x_pI_1, if_neg (by omega), x_pI_1, if_neg (by omega)]; exact h3⟩, h4⟩
theorem p_bl (ht : t_fin σ0 μ0 K P m) : ∀ (d i : Nat), i + d = 4 → ∀ (f f2 h : Nat) (σ μ : x_Hp), p_R σ0 μ0 P m sd h h σ μ → y_bd sd 110 μ → (∀ j, j < i → μ.1 9 (4 * sd + j) = σ.1 19 j ∧ ∃ w, σ.1 19 j = nI w ∧ (σ.1 14 10 = 0 → w ≤ 99)) → d < f → d < f2 → ∃ τ ν, (F_X4_takeNumbers_3 f (nI 4) (nI 99) (nI i) σ = some (1, τ) ∧ F_X9_tellOne_82 f2 (nI i) μ = x_b (F_X9_must (4 : Int32) ν) (fun _ σ20 => some ((), σ20)) ∧ (∃ h', h ≤ h' ∧ p_R σ0 μ0 P m sd h' h' τ ν) ∧ c_hd σ τ ∧ y_b9 sd μ ν ∧ (τ.1 14 10 = 0 → σ.1 14 10 = 0) ∧ ∀ j, j < 4 → ν.1 9 (4 * sd + j) = τ.1 19 j ∧ ∃ w, τ.1 19 j = nI w ∧ (τ.1 14 10 = 0 → w ≤ 99)) ∨ (F_X4_takeNumbers_3 f (nI 4) (nI 99) (nI i) σ = some (0, τ) ∧ F_X9_tellOne_82 f2 (nI i) μ = some ((), ν) ∧ p_bad σ0 μ0 sd 110 τ ν) := by
  intro d
  induction d with
  | zero =>
    intro i hi f f2 h σ μ g hbd st hf hf2
    obtain ⟨f, rfl⟩ := Nat.exists_eq_succ_of_ne_zero (show f ≠ 0 by omega)
    obtain ⟨f2, rfl⟩ := Nat.exists_eq_succ_of_ne_zero (show f2 ≠ 0 by omega)
    have i4 : i = 4 := by omega
    subst i4
    exact ⟨σ, μ, Or.inl ⟨c_num_end f (by decide) (by decide) _ σ, by rw [F_X9_tellOne_82, if_pos (by decide)], ⟨h, Nat.le_refl _, g⟩, c_hd.same σ, ⟨fun _ _ _ _ => rfl, fun _ _ => rfl⟩, fun e => e, st⟩⟩
  | succ d ih =>
    intro i hi f f2 h σ μ g hbd st hf hf2
    obtain ⟨f, rfl⟩ := Nat.exists_eq_succ_of_ne_zero (show f ≠ 0 by omega)
    obtain ⟨f2, rfl⟩ := Nat.exists_eq_succ_of_ne_zero (show f2 ≠ 0 by omega)
    have hsd := g.2.2.1
    have e4 : (4 : Int32) * nI sd + nI i = nI (4 * sd + i) := by rw [show (4 : Int32) = nI 4 from rfl, pk_mul, nI_add]
    obtain ⟨τ, ν, v, r1, r2⟩ := p_num (B := 110) ht g hbd (show 99 ≤ 9999 by decide) (show i < 4 by omega) (by decide) f
    have r1' : F_X9_bounded 0 99 μ = some (v, ν) := r1
    have hr : F_X9_tellOne_82 (f2 + 1) (nI i) μ = F_X9_tellOne_82 f2 (nI (i + 1)) (x_pI ν 9 (4 * sd + i) v) := by
      rw [F_X9_tellOne_82, if_neg (show ¬ (4 : Int32) ≤ nI i from nI_ge (b := 4) (by omega) (by decide)), r1', x_b_s, g.2.2.2.2.2.2.2.2, e4, x_gd_t (x_inb_nI (by omega) (by decide)), x_pt_s, x_ix_nI (by omega), nI_1]
    rcases r2 with ⟨c, wv, w1, w2, w3, w4, w5, w6, w7, w8⟩ | ⟨c, k, pl, w1, w2⟩
    · have g2 : p_R σ0 μ0 P m sd (h + 1) (h + 1) τ (x_pI ν 9 (4 * sd + i) v) := w3.pIy (by unfold y_Fs; omega) (by omega) _
      have hbd2 : y_bd sd 110 (x_pI ν 9 (4 * sd + i) v) := by
        obtain ⟨⟨b, b1, b2, b3⟩, w, c, v1, v2, v3, v4, v5⟩ := hbd.hd w5
        exact ⟨⟨b, b1, b2, by rw [x_pI_1, if_neg (by omega)]; exact b3⟩, w, c, v1, by rw [x_pI_1, if_neg (by omega)]; exact v2, v3, v4, by rw [x_pI_1, if_neg (by omega)]; exact v5⟩
      have st2 : ∀ j, j < i + 1 → (x_pI ν 9 (4 * sd + i) v).1 9 (4 * sd + j) = τ.1 19 j ∧ ∃ w, τ.1 19 j = nI w ∧ (τ.1 14 10 = 0 → w ≤ 99) := by
        intro j hj
        by_cases y : j = i
        · subst y
          exact ⟨by rw [x_pI_1, if_pos ⟨rfl, rfl⟩, w2, w6], wv, w6, fun e => (w8 e).1⟩
        · obtain ⟨s1, w, s2, s3⟩ := st j (by omega)
          rw [x_pI_1, if_neg (by omega), w5.1 _ _ (by omega), w7 j y]
          exact ⟨s1, w, s2, fun e => s3 (w8 e).2⟩
      obtain ⟨τ', ν', s⟩ := ih (i + 1) (by omega) f f2 (h + 1) _ _ g2 hbd2 st2 (by omega) (by omega)
      refine ⟨τ', ν', ?_⟩
      rw [c, hr]
      rcases s with ⟨s1, s2, ⟨h', s3, s4⟩, s5, s6, s7, s8⟩ | s
      · refine Or.inl ⟨s1, s2, ⟨h', by omega, s4⟩, w4.tr s5, ⟨fun a b z1 z2 => by rw [s6.1 a b z1 z2, x_pI_1, if_neg (by omega), w5.1 a b z1], fun a b => by rw [s6.2, x_pI_2, w5.2]⟩, fun e => (w8 (s7 e)).2, s8⟩
      · exact Or.inr s
    · have q4 : y_X sd μ0 k pl 110 (x_pI ν 9 (4 * sd + i) v) := w2.pI (by unfold y_Fs; omega) (by omega) _
      obtain ⟨ρ, s1, s2⟩ := y_X.baby d (i + 1) f2 _ q4 (by omega) (by omega)
      exact ⟨τ, ρ, Or.inr ⟨c, by rw [hr, s1], k, pl, w1, s2⟩⟩
theorem p_baby (ht : t_fin σ0 μ0 K P m) {h S N C bn A : Nat} {L : x_LW} {σ μ : x_Hp} (hb4 : 4 * bn ≤ h) (g : p_R σ0 μ0 P m sd h h σ μ) (hK : K h = 0) (t : p_TL sd S N C bn h 7 L σ μ) (tn : p_TN sd A σ μ) : p_GO σ0 μ0 P m sd h (F_X4_tellBaby σ) (x_b (F_X9_goesOn μ) fun _ σ2 => F_X9_tellOne_82 x_fuel (0 : Int32) σ2) := by
  have h4 := g.2.2.2.1
  have hsd := g.2.2.1
  have hbd := t.bd h4.1 hb4
  have z0 : x_isz (0 : Int32) = true := by decide
  have z1 : x_isz (1 : Int32) = true := by decide
  rcases p_step ht g (by omega) (by omega) hbd with ⟨a1, a2, a3, a4⟩ | ⟨τ, ν, a2, a3, ⟨k, pl, a4, a5⟩, a6⟩
  · have hbd2 : y_bd sd 110 (x_pI μ 0 11 (nI (h + 1))) := hbd.hd (y_hd.pI μ (by omega) _)
    obtain ⟨τ, ν, s⟩ := p_bl ht 4 0 rfl x_fuel x_fuel (h + 1) _ _ a4 hbd2 (fun j hj => absurd hj (by omega)) (by decide) (by decide)
    have hc : F_X4_tellBaby σ = x_b (F_X4_takeNumbers_3 x_fuel (nI 4) (nI 99) (nI 0) (x_pI σ 14 6 (nI (h + 1)))) (fun v2 σ2 => if v2 = 0 then F_X4_tellBaby_31 σ2 else x_b (F_X4_take_ (59 : Int32) σ2) fun v3 σ3 => if v3 = 0 then F_X4_tellBaby_31 σ3 else F_X4_tellBaby_32 (1 : Int32) σ3) := by
      rw [F_X4_tellBaby, a2, x_b_s, if_neg (show ¬ (1 : Int32) = 0 by decide)]; rfl
    rw [hc, a3, x_b_s]
    rcases s with ⟨s1, s2, ⟨h', s3, s4⟩, s5, s6, s7, s8⟩ | ⟨s1, s2, s3⟩
    · have hbd3 : y_bd sd 110 ν := by
        obtain ⟨⟨b, b1, b2, b3⟩, w, c, v1, v2, v3, v4, v5⟩ := hbd2
        exact ⟨⟨b, b1, b2, by rw [s6.1 _ _ (by omega) (by omega)]; exact b3⟩, w, c, v1, by rw [s6.1 _ _ (by omega) (by omega)]; exact v2, v3, v4, by rw [s6.1 _ _ (by omega) (by omega)]; exact v5⟩
      have s2' : F_X9_tellOne_82 x_fuel 0 (x_pI μ 0 11 (nI (h + 1))) = x_b (F_X9_must (4 : Int32) ν) (fun _ σ20 => some ((), σ20)) := s2
      rw [s1, x_b_s, if_neg (show ¬ (1 : Int32) = 0 by decide), s2']
      rcases p_must ht s4 (by omega) hbd3 (kc := 59) (by unfold n_kd; omega) (by decide) with ⟨m1, m2, m3, m4, m5⟩ | ⟨τ', ν', m3, m4, m5⟩
      · have m3' : F_X4_take_ 59 τ = some (1, x_pI τ 14 6 (nI (h' + 1))) := m3
        have m4' : F_X9_must 4 ν = some ((), x_pI ν 0 11 (nI (h' + 1))) := m4
        have hh := m5.2.2.2.1
        have e19 : ∀ j, (x_pI τ 14 6 (nI (h' + 1))).1 19 j = τ.1 19 j := fun j => by rw [x_pI_1, if_neg (by omega)]
        rw [m3', x_b_s, if_neg (show ¬ (1 : Int32) = 0 by decide), c_baby32 1 z1, m4', x_b_s, e19, e19, e19, e19]
        have ff : ∀ a b, a ≠ 21 ∨ 4 ≤ b → (x_pI (x_pI (x_pI (x_pI (x_pI τ 14 6 (nI (h' + 1))) 21 0 (τ.1 19 0)) 21 1 (τ.1 19 1)) 21 2 (τ.1 19 2)) 21 3 (τ.1 19 3)).1 a b = if a = 14 ∧ b = 6 then nI (h' + 1) else τ.1 a b := fun a b z => by
          rw [x_pI_1, if_neg (by omega), x_pI_1, if_neg (by omega), x_pI_1, if_neg (by omega), x_pI_1, if_neg (by omega), x_pI_1]
        have fb : ∀ j, j < 4 → (x_pI (x_pI (x_pI (x_pI (x_pI τ 14 6 (nI (h' + 1))) 21 0 (τ.1 19 0)) 21 1 (τ.1 19 1)) 21 2 (τ.1 19 2)) 21 3 (τ.1 19 3)).1 21 j = τ.1 19 j := fun j hj => by
          have : j = 0 ∨ j = 1 ∨ j = 2 ∨ j = 3 := by omega
          rcases this with rfl | rfl | rfl | rfl
          · rw [x_pI_1, if_neg (by omega), x_pI_1, if_neg (by omega), x_pI_1, if_neg (by omega), x_pI_1, if_pos ⟨rfl, rfl⟩]
          · rw [x_pI_1, if_neg (by omega), x_pI_1, if_neg (by omega), x_pI_1, if_pos ⟨rfl, rfl⟩]
          · rw [x_pI_1, if_neg (by omega), x_pI_1, if_pos ⟨rfl, rfl⟩]
          · rw [x_pI_1, if_pos ⟨rfl, rfl⟩]
        have fc : ∀ a b, ¬ (a = 14 ∧ (b = 6 ∨ b = 10 ∨ b = 11)) → a ≠ 19 → ¬ (a = 21 ∧ b < 4) → (x_pI (x_pI (x_pI (x_pI (x_pI τ 14 6 (nI (h' + 1))) 21 0 (τ.1 19 0)) 21 1 (τ.1 19 1)) 21 2 (τ.1 19 2)) 21 3 (τ.1 19 3)).1 a b = σ.1 a b := fun a b z1 z2 z3 => by
          rw [ff a b (by omega), if_neg (by omega), s5.1 a b z2 z1, x_pI_1, if_neg (by omega)]
        have fy : ∀ a b, ¬ (a = 0 ∧ (b = 11 ∨ (13 ≤ b ∧ b ≤ 16))) → ¬ (a = 9 ∧ 4 * sd ≤ b ∧ b < 4 * sd + 4) → (x_pI ν 0 11 (nI (h' + 1))).1 a b = μ.1 a b := fun a b z1 z2 => by
          rw [x_pI_1, if_neg (by omega), s6.1 a b z1 z2, x_pI_1, if_neg (by omega)]
        refine ⟨_, _, rfl, Or.inl ⟨rfl, h' + 1, S, N, C, bn, L, A, by omega, by omega, (((m5.pIc (a := 21) (b := 0) (by omega) _).pIc (a := 21) (b := 1) (by omega) _).pIc (a := 21) (b := 2) (by omega) _).pIc (a := 21) (b := 3) (by omega) _, t.ag (by omega) (fun a b q1 q2 => fc a b (by omega) (by omega) (by omega)) (fun a b q => fy a b (by omega) (by omega)), by omega, ?_⟩⟩
        obtain ⟨t1, t2, t3, t4, t5, t6, t7, t8, t9, t10⟩ := tn
        refine ⟨t1, by rw [fc _ _ (by omega) (by omega) (by omega)]; exact t2, by rw [fy _ _ (by omega) (by omega)]; exact t3, by rw [fy _ _ (by omega) (by omega)]; exact t4, fun a ha => ?_, by rw [fy _ _ (by omega) (by omega), fc _ _ (by omega) (by omega) (by omega)]; exact t6, by rw [fy _ _ (by omega) (by omega), fc _ _ (by omega) (by omega) (by omega)]; exact t7, by rw [fy _ _ (by omega) (by omega), fc _ _ (by omega) (by omega) (by omega)]; exact t8, fun k hk => ?_, fun e => ?_⟩
        · obtain ⟨u1, u2, u3, u4, u5, u6, u7⟩ := t5 a ha
          refine ⟨?_, ?_, ?_, ?_, ?_, ?_, ?_⟩
          · rw [x_pI_2, x_pI_2, x_pI_2, x_pI_2, x_pI_2, x_pI_2, s5.2, s6.2, x_pI_2, x_pI_2]; exact u1
          · rw [fy _ _ (by omega) (by omega), fc _ _ (by omega) (by omega) (by omega)]; exact u2
          · rw [fy _ _ (by omega) (by omega), fc _ _ (by omega) (by omega) (by omega)]; exact u3
          · rw [fy _ _ (by omega) (by omega), fc _ _ (by omega) (by omega) (by omega)]; exact u4
          · rw [fy _ _ (by omega) (by omega), fc _ _ (by omega) (by omega) (by omega)]; exact u5
          · rw [fy _ _ (by omega) (by omega), fc _ _ (by omega) (by omega) (by omega)]; exact u6
          · rw [fc _ _ (by omega) (by omega) (by omega)]; exact u7
        · rw [x_pI_1, if_neg (by omega), fb k hk]; exact (s8 k hk).1
        · rw [ff _ _ (by omega), if_neg (by omega)] at e
          have e0 := s7 e
          rw [x_pI_1, if_neg (by omega)] at e0
          obtain ⟨y1, y2, y3⟩ := t10 e0
          refine ⟨by rw [fc _ _ (by omega) (by omega) (by omega)]; exact y1, by rw [fc _ _ (by omega) (by omega) (by omega)]; exact y2, fun k hk => ?_⟩
          obtain ⟨w, q1, q2⟩ := (s8 k hk).2
          exact ⟨w, q2 e, by rw [fb k hk, q1]⟩
      · have m3' : F_X4_take_ 59 τ = some (0, τ') := m3
        have m4' : F_X9_must 4 ν = some ((), ν') := m4
        exact ⟨_, ν', by rw [m4', x_b_s], Or.inr ⟨by rw [m3', x_b_s, if_pos rfl, F_X4_tellBaby_31, c_baby32 0 z0], (m5.baby _ _ _ _).mono (by omega)⟩⟩
    · exact ⟨_, ν, s2, Or.inr ⟨by rw [s1, x_b_s, if_pos rfl, F_X4_tellBaby_31, c_baby32 0 z0], (s3.baby _ _ _ _).mono (by omega)⟩⟩
  · obtain ⟨ρ, s1, s2⟩ := y_X.baby (sd := sd) (μ0 := μ0) (k := k) (pl := pl) (B := 110) 4 0 x_fuel ν a5 rfl (by decide)
    exact ⟨_, ρ, by rw [a3, x_b_s]; exact s1, Or.inr ⟨by rw [F_X4_tellBaby, a2, x_b_s, if_pos rfl, F_X4_tellBaby_31, c_baby32 0 z0], p_bad.baby ⟨k, pl, a4, s2.mono (by omega)⟩ _ _ _ _⟩⟩
end BABY
