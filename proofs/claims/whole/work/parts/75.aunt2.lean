/-! READING: an aunt's end, both -/
section AUNT2
variable {σ0 μ0 : x_Hp} {K P : Nat → Nat} {m sd q h : Nat}
theorem p_R.pLc {σ μ : x_Hp} (g : p_R σ0 μ0 P m sd q h σ μ) (b : Nat) (y : Int64) : p_R σ0 μ0 P m sd q h (x_pL σ 22 b y) μ := by
  obtain ⟨g1, g2, g3, g4, g5, g6, g7, g8, g9⟩ := g
  exact ⟨⟨g1.1, fun a c z => by rw [x_pL_2, if_neg (fun w => z w.1)]; exact g1.2 a c z⟩, g2, g3, g4, g5, g6, g7, g8, g9⟩
theorem p_R.pLy {σ μ : x_Hp} (g : p_R σ0 μ0 P m sd q h σ μ) (b : Nat) (y : Int64) : p_R σ0 μ0 P m sd q h σ (x_pL μ 8 b y) := by
  obtain ⟨g1, g2, g3, g4, g5, g6, g7, g8, g9⟩ := g
  exact ⟨g1, ⟨g2.1, fun a c z => by rw [x_pL_2, if_neg (fun w => z w.1)]; exact g2.2 a c z⟩, g3, g4, g5, g6, g7, g8, g9⟩
/-- the class's rows of a new aunt -/
def c_new (σ : x_Hp) (A s : Nat) (y1 : Int64) : x_Hp := x_pI (x_pI (x_pI (x_pI (x_pI (x_pI (x_pL σ 22 A y1) 23 A (σ.1 19 0)) 24 A (σ.1 19 1)) 25 A (σ.1 19 2)) 26 A (σ.1 19 3)) 27 A (nI s)) 21 7 (nI (A + 1))
theorem c_new_1 (σ : x_Hp) (A s : Nat) (y1 : Int64) (a b : Nat) : (c_new σ A s y1).1 a b = if a = 21 ∧ b = 7 then nI (A + 1) else if a = 27 ∧ b = A then nI s else if a = 26 ∧ b = A then σ.1 19 3 else if a = 25 ∧ b = A then σ.1 19 2 else if a = 24 ∧ b = A then σ.1 19 1 else if a = 23 ∧ b = A then σ.1 19 0 else σ.1 a b := by
  rw [c_new, x_pI_1, x_pI_1, x_pI_1, x_pI_1, x_pI_1, x_pI_1, x_pL_1]
theorem c_new_2 (σ : x_Hp) (A s : Nat) (y1 : Int64) (a b : Nat) : (c_new σ A s y1).2 a b = if a = 22 ∧ b = A then y1 else σ.2 a b := by
  rw [c_new, x_pI_2, x_pI_2, x_pI_2, x_pI_2, x_pI_2, x_pI_2, x_pL_2]
theorem p_R.new {σ μ : x_Hp} (g : p_R σ0 μ0 P m sd q h σ μ) (A s : Nat) (y1 : Int64) : p_R σ0 μ0 P m sd q h (c_new σ A s y1) μ :=
  ((((((g.pLc A y1).pIc (a := 23) (b := A) (by omega) _).pIc (a := 24) (b := A) (by omega) _).pIc (a := 25) (b := A) (by omega) _).pIc (a := 26) (b := A) (by omega) _).pIc (a := 27) (b := A) (by omega) _).pIc (a := 21) (b := 7) (by omega) _
theorem c_tellA {σ : x_Hp} {A s : Nat} (h7 : σ.1 21 7 = nI A) (hA : A < 6) (hs : s ≤ 1) (y1 : Int64) : F_X6_tellAunt 21 y1 19 (nI s) σ = some ((), c_new σ A s y1) := by
  have l22 : x_ln TX (x_rf TX 21 8) = 6 := by decide +kernel
  have e0 : ∀ k, k < 4 → ∀ ρ : x_Hp, x_aT ρ 19 (nI k) = ρ.1 19 k := fun k hk ρ => x_aT_nI _ _ (by rw [lnX_19]; exact hk)
  have r : ∀ (ρ : x_Hp) (a b : Nat) (x : Int32), a ≠ 19 → a ≠ 21 → (ρ.1 21 7 = nI A → (x_pI ρ a b x).1 21 7 = nI A) ∧ ∀ k, (x_pI ρ a b x).1 19 k = ρ.1 19 k := fun ρ a b x h1 h2 => ⟨fun e => by rw [x_pI_1, if_neg (by omega)]; exact e, fun k => by rw [x_pI_1, if_neg (by omega)]⟩
  have k7 : (x_pL σ 22 A y1).1 21 7 = nI A := h7
  have k7a := (r _ 23 A (σ.1 19 0) (by decide) (by decide)).1 k7
  have k7b := (r _ 24 A (σ.1 19 1) (by decide) (by decide)).1 k7a
  have k7c := (r _ 25 A (σ.1 19 2) (by decide) (by decide)).1 k7b
  have k7d := (r _ 26 A (σ.1 19 3) (by decide) (by decide)).1 k7c
  have k7e := (r _ 27 A (nI s) (by decide) (by decide)).1 k7d
  have last : ∀ x, x = nI s → F_X6_tellAunt_111 21 x (nI A) 27 (x_pI (x_pI (x_pI (x_pI (x_pL σ 22 A y1) 23 A (σ.1 19 0)) 24 A (σ.1 19 1)) 25 A (σ.1 19 2)) 26 A (σ.1 19 3)) = some ((), c_new σ A s y1) := fun x hx => by
    rw [F_X6_tellAunt_111, hx, e_put, x_b_s, x_pT_nI _ _ (by rw [lnX_27]; exact hA), k7e, nI_1, x_pt_s]; rfl
  have n0 : (x_pL σ 22 A y1).1 19 0 = σ.1 19 0 := rfl
  have n1 : (x_pI (x_pL σ 22 A y1) 23 A (σ.1 19 0)).1 19 1 = σ.1 19 1 := by rw [x_pI_1, if_neg (by omega)]; rfl
  have n2 : (x_pI (x_pI (x_pL σ 22 A y1) 23 A (σ.1 19 0)) 24 A (σ.1 19 1)).1 19 2 = σ.1 19 2 := by rw [x_pI_1, if_neg (by omega), x_pI_1, if_neg (by omega)]; rfl
  have n3 : (x_pI (x_pI (x_pI (x_pL σ 22 A y1) 23 A (σ.1 19 0)) 24 A (σ.1 19 1)) 25 A (σ.1 19 2)).1 19 3 = σ.1 19 3 := by rw [x_pI_1, if_neg (by omega), x_pI_1, if_neg (by omega), x_pI_1, if_neg (by omega)]; rfl
  have a0 : ∀ ρ : x_Hp, F_X8_at 19 0 ρ = some (ρ.1 19 0, ρ) := fun ρ => by rw [e_at, show (0 : Int32) = nI 0 from rfl, e0 0 (by decide)]
  have a1 : ∀ ρ : x_Hp, F_X8_at 19 1 ρ = some (ρ.1 19 1, ρ) := fun ρ => by rw [e_at, show (1 : Int32) = nI 1 from rfl, e0 1 (by decide)]
  have a2 : ∀ ρ : x_Hp, F_X8_at 19 2 ρ = some (ρ.1 19 2, ρ) := fun ρ => by rw [e_at, show (2 : Int32) = nI 2 from rfl, e0 2 (by decide)]
  have a3 : ∀ ρ : x_Hp, F_X8_at 19 3 ρ = some (ρ.1 19 3, ρ) := fun ρ => by rw [e_at, show (3 : Int32) = nI 3 from rfl, e0 3 (by decide)]
  rw [F_X6_tellAunt, h7, if_neg (nI_pos (by omega)), l22, if_neg (show ¬ Int32.ofNat 6 ≤ nI A from nI_ge (b := 6) hA (by decide)), x_gd_t (x_inb_nI hA (by decide)), x_ix_nI (by omega), show x_rf TX 21 8 = 22 by decide +kernel, x_pt_s, F_X6_tellAunt_29, a0, x_b_s, k7, show x_rf TX 21 9 = 23 by decide +kernel, e_put, x_b_s, x_pT_nI _ _ (by rw [lnX_23]; exact hA), n0, a1, x_b_s, k7a, n1, show x_rf TX 21 10 = 24 by decide +kernel, e_put, x_b_s, x_pT_nI _ _ (by rw [lnX_24]; exact hA), a2, x_b_s, k7b, n2, show x_rf TX 21 11 = 25 by decide +kernel, e_put, x_b_s, x_pT_nI _ _ (by rw [lnX_25]; exact hA), a3, x_b_s, k7c, n3, show x_rf TX 21 12 = 26 by decide +kernel, e_put, x_b_s, x_pT_nI _ _ (by rw [lnX_26]; exact hA), k7d, show x_rf TX 21 13 = 27 by decide +kernel]
  have hs' : s = 0 ∨ s = 1 := by omega
  rcases hs' with rfl | rfl
  · rw [if_pos (show nI 0 = (0 : Int32) from rfl)]; exact last 0 rfl
  · rw [if_neg (show ¬ nI 1 = (0 : Int32) by decide)]; exact last 1 rfl
theorem p_118 {K : Nat → Nat} (ht : t_fin σ0 μ0 K P m) {A S N C bn s x2 : Nat} {L : x_LW} {σ μ : x_Hp} {y1 : Int64} (hA : A < 6) (hs : s ≤ 1) (hx2 : x2 < 403) (hy : μ.2 6 x2 = y1) (hb4 : 4 * bn ≤ h) (g : p_R σ0 μ0 P m sd h h σ μ) (t : p_TL sd S N C bn h 7 L σ μ) (tn : p_TN sd A σ μ) (rows : ∀ j, j < 4 → μ.1 (11 + j) (6 * sd + A) = σ.1 19 j) (r15 : μ.1 15 (6 * sd + A) = nI s) : p_GO σ0 μ0 P m sd h (F_X4_tellAunt_118 y1 (nI s) σ) (F_X9_tellAunt_169 (nI x2) μ) := by
  have h4 := g.2.2.2.1
  have hsd := g.2.2.1
  have hbd := t.bd h4.1 hb4
  obtain ⟨t1, t2, t3, t4, t5, t6, t7, t8, t9, t10⟩ := tn
  have hn := g.new A s y1
  rw [F_X4_tellAunt_118, c_tellA t2 hA hs, x_b_s, F_X9_tellAunt_169]
  rcases p_must ht hn (by omega) hbd (kc := 59) (by unfold n_kd; omega) (by decide) with ⟨m1, m2, m3, m4, m5⟩ | ⟨τ', ν', m3, m4, k, pl, m5, m6⟩
  · have m3' : F_X4_take_ 59 (c_new σ A s y1) = some (1, x_pI (c_new σ A s y1) 14 6 (nI (h + 1))) := m3
    have m4' : F_X9_must 4 μ = some ((), x_pI μ 0 11 (nI (h + 1))) := m4
    have d13 : (x_pI μ 0 11 (nI (h + 1))).1 0 13 ≤ 0 := by rw [m5.k13]; decide
    have d20 : (x_pI μ 0 11 (nI (h + 1))).1 0 20 = nI A := by rw [x_pI_1, if_neg (by omega)]; exact t3
    have d20' : (x_pL (x_pI μ 0 11 (nI (h + 1))) 8 A y1).1 0 20 = nI A := d20
    have d6 : (x_pI μ 0 11 (nI (h + 1))).2 6 x2 = y1 := hy
    have d19 : (x_pI (x_pL (x_pI μ 0 11 (nI (h + 1))) 8 A y1) 0 20 (nI (A + 1))).1 0 19 = nI sd := by rw [x_pI_1, if_neg (by omega)]; exact m5.2.2.2.2.2.2.2.2
    have d10 : (x_pI (x_pL (x_pI μ 0 11 (nI (h + 1))) 8 A y1) 0 20 (nI (A + 1))).1 10 sd = nI A := by
      rw [x_pI_1, if_neg (by omega)]
      show (x_pI μ 0 11 (nI (h + 1))).1 10 sd = nI A
      rw [x_pI_1, if_neg (by omega)]; exact t4
    rw [m3', x_b_s, x_gd_t (by decide), m4', x_b_s, if_pos d13, x_gd_t (x_inb_nI hx2 (by decide)), d20, x_gd_t (x_inb_nI hA (by decide)), x_ix_nI (by omega), x_ix_nI (by omega), d6, x_pt_s, d20', nI_1, x_pt_s, d19, x_gd_t (x_inb_nI hsd (by decide)), x_gd_t (x_inb_nI hsd (by decide)), x_ix_nI (by omega), d10, nI_1, x_pt_s]
    have fc : ∀ a b, ¬ (a = 14 ∧ b = 6) → ¬ (a = 21 ∧ b = 7) → ¬ (23 ≤ a ∧ a ≤ 27 ∧ b = A) → (x_pI (c_new σ A s y1) 14 6 (nI (h + 1))).1 a b = σ.1 a b := fun a b z1 z2 z3 => by
      rw [x_pI_1, if_neg z1, c_new_1, if_neg z2, if_neg (by omega), if_neg (by omega), if_neg (by omega), if_neg (by omega), if_neg (by omega)]
    have fn : ∀ a b, ¬ (a = 14 ∧ b = 6) → (x_pI (c_new σ A s y1) 14 6 (nI (h + 1))).1 a b = (c_new σ A s y1).1 a b := fun a b z1 => by rw [x_pI_1, if_neg z1]
    have fy : ∀ a b, ¬ (a = 0 ∧ (b = 11 ∨ b = 20)) → ¬ (a = 10 ∧ b = sd) → (x_pI (x_pI (x_pL (x_pI μ 0 11 (nI (h + 1))) 8 A y1) 0 20 (nI (A + 1))) 10 sd (nI (A + 1))).1 a b = μ.1 a b := fun a b z1 z2 => by
      rw [x_pI_1, if_neg z2, x_pI_1, if_neg (by omega), x_pL_1, x_pI_1, if_neg (by omega)]
    refine ⟨_, _, rfl, Or.inl ⟨rfl, h + 1, S, N, C, bn, L, A + 1, by omega, by omega, ((m5.pLy A y1).pIy (a := 0) (b := 20) (by unfold y_Fs; omega) (by omega) _).pIy (a := 10) (b := sd) (by unfold y_Fs; omega) (by omega) _, t.ag (by omega) (fun a b q1 q2 => fc a b (by omega) (by omega) (by omega)) (fun a b q => fy a b (by omega) (by omega)), by omega, ?_⟩⟩
    refine ⟨by omega, ?_, ?_, ?_, fun a ha => ?_, ?_, ?_, ?_, fun k hk => ?_, fun e => ?_⟩
    · rw [fn _ _ (by omega), c_new_1, if_pos ⟨rfl, rfl⟩]
    · rw [x_pI_1, if_neg (by omega), x_pI_1, if_pos ⟨rfl, rfl⟩]
    · rw [x_pI_1, if_pos ⟨rfl, rfl⟩]
    · by_cases y : a = A
      · subst y
        rw [fy 11 _ (by omega) (by omega), fy 12 _ (by omega) (by omega), fy 13 _ (by omega) (by omega), fy 14 _ (by omega) (by omega), fy 15 _ (by omega) (by omega), fn 23 _ (by omega), fn 24 _ (by omega), fn 25 _ (by omega), fn 26 _ (by omega), fn 27 _ (by omega), r15]
        have q23 : (c_new σ a s y1).1 23 a = σ.1 19 0 := by rw [c_new_1, if_neg (by omega), if_neg (by omega), if_neg (by omega), if_neg (by omega), if_neg (by omega), if_pos ⟨rfl, rfl⟩]
        have q24 : (c_new σ a s y1).1 24 a = σ.1 19 1 := by rw [c_new_1, if_neg (by omega), if_neg (by omega), if_neg (by omega), if_neg (by omega), if_pos ⟨rfl, rfl⟩]
        have q25 : (c_new σ a s y1).1 25 a = σ.1 19 2 := by rw [c_new_1, if_neg (by omega), if_neg (by omega), if_neg (by omega), if_pos ⟨rfl, rfl⟩]
        have q26 : (c_new σ a s y1).1 26 a = σ.1 19 3 := by rw [c_new_1, if_neg (by omega), if_neg (by omega), if_pos ⟨rfl, rfl⟩]
        have q27 : (c_new σ a s y1).1 27 a = nI s := by rw [c_new_1, if_neg (by omega), if_pos ⟨rfl, rfl⟩]
        rw [q23, q24, q25, q26, q27]
        refine ⟨?_, rows 0 (by decide), rows 1 (by decide), rows 2 (by decide), rows 3 (by decide), rfl, ?_⟩
        · rw [x_pI_2, x_pI_2, x_pI_2, x_pL_2, if_pos ⟨rfl, rfl⟩, c_new_2, if_pos ⟨rfl, rfl⟩]
        · have : s = 0 ∨ s = 1 := by omega
          rcases this with rfl | rfl
          · exact Or.inl rfl
          · exact Or.inr rfl
      · obtain ⟨u1, u2, u3, u4, u5, u6, u7⟩ := t5 a (by omega)
        rw [fy 11 _ (by omega) (by omega), fy 12 _ (by omega) (by omega), fy 13 _ (by omega) (by omega), fy 14 _ (by omega) (by omega), fy 15 _ (by omega) (by omega), fc 23 _ (by omega) (by omega) (by omega), fc 24 _ (by omega) (by omega) (by omega), fc 25 _ (by omega) (by omega) (by omega), fc 26 _ (by omega) (by omega) (by omega), fc 27 _ (by omega) (by omega) (by omega)]
        refine ⟨?_, u2, u3, u4, u5, u6, u7⟩
        rw [x_pI_2, x_pI_2, x_pI_2, x_pL_2, if_neg (fun w => y w.2), x_pI_2, c_new_2, if_neg (fun w => y w.2)]; exact u1
    · rw [fy _ _ (by omega) (by omega), fc _ _ (by omega) (by omega) (by omega)]; exact t6
    · rw [fy _ _ (by omega) (by omega), fc _ _ (by omega) (by omega) (by omega)]; exact t7
    · rw [fy _ _ (by omega) (by omega), fc _ _ (by omega) (by omega) (by omega)]; exact t8
    · rw [fy _ _ (by omega) (by omega), fc _ _ (by omega) (by omega) (by omega)]; exact t9 k hk
    · rw [fc _ _ (by omega) (by omega) (by omega)] at e
      obtain ⟨y1, y2, y3⟩ := t10 e
      exact ⟨by rw [fc _ _ (by omega) (by omega) (by omega)]; exact y1, by rw [fc _ _ (by omega) (by omega) (by omega)]; exact y2, fun k hk => by rw [fc _ _ (by omega) (by omega) (by omega)]; exact y3 k hk⟩
  · have m3' : F_X4_take_ 59 (c_new σ A s y1) = some (0, τ') := m3
    have m4' : F_X9_must 4 μ = some ((), ν') := m4
    exact ⟨τ', ν', by rw [m4', x_b_s, if_neg m6.le0], Or.inr ⟨by rw [m3', x_b_s, x_gd_t (by decide)], k, pl, m5, m6.mono (by omega)⟩⟩
end AUNT2
