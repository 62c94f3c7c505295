/-! READING: an aunt's numbers, both -/
theorem y_X.a154 {sd k pl B a : Nat} {μ0 μ : x_Hp} (h : y_X sd μ0 k pl B μ) (ha : 6 * sd ≤ a) (ha2 : a < 6 * sd + 6) (x2 : Int32) : ∃ ν, F_X9_tellAunt_154 (nI a) x2 (nI a) μ = some ((), ν) ∧ y_X sd μ0 k pl B ν := by
  have hsd := h.sdl
  have hi : x_inb (nI a) 12 = true := x_inb_nI (by omega) (by decide)
  have h5 : y_X sd μ0 k pl B (x_pI μ 15 a (vp_nar .boolean 0)) := h.pI (by unfold y_Fs; omega) (by omega) _
  rw [F_X9_tellAunt_154, F_X9_tellAunt_155, x_gd_t hi, x_pt_s, x_ix_nI (by omega), x_gd_t hi, if_pos (show (x_pI μ 15 a (vp_nar .boolean 0)).1 15 a = 0 by rw [x_pI_1, if_pos ⟨rfl, rfl⟩]; rfl), F_X9_tellAunt_169, h5.must, x_b_s, if_neg h5.le0]
  exact ⟨_, rfl, h5⟩
/-- both may write the aunt's rows -/
def y_ar (sd A : Nat) (μ τ : x_Hp) : Prop := (∀ a b, ¬ (a = 0 ∧ (b = 11 ∨ (13 ≤ b ∧ b ≤ 16))) → ¬ (11 ≤ a ∧ a ≤ 15 ∧ b = 6 * sd + A) → τ.1 a b = μ.1 a b) ∧ ∀ a b, τ.2 a b = μ.2 a b
section AUNT
variable {σ0 μ0 : x_Hp} {K P : Nat → Nat} {m sd : Nat}
theorem y_ar.bd {A B : Nat} {μ τ : x_Hp} (h : y_ar sd A μ τ) (hb : y_bd sd B μ) : y_bd sd B τ := by
  obtain ⟨⟨b, b1, b2, b3⟩, w, c, v1, v2, v3, v4, v5⟩ := hb
  exact ⟨⟨b, b1, b2, by rw [h.1 _ _ (by omega) (by omega)]; exact b3⟩, w, c, v1, by rw [h.1 _ _ (by omega) (by omega)]; exact v2, v3, v4, by rw [h.1 _ _ (by omega) (by omega)]; exact v5⟩
/-- the four numbers of an aunt -/
theorem p_four (ht : t_fin σ0 μ0 K P m) {h A : Nat} {σ μ : x_Hp} (hA : A < 6) (x2 : Int32) (hbd : y_bd sd 110 μ) (g : p_R σ0 μ0 P m sd h h σ μ) : ∃ τ ν, (F_X4_takeNumbers 0 3 9 σ = some (1, τ) ∧ ∃ τ', F_X4_takeNumbers 3 4 99 τ = some (1, τ') ∧ F_X9_tellAunt_77 (nI (6 * sd + A)) x2 μ = x_b (F_X9_is (22 : Int32) ν) (fun v19 σ19 => if v19 = 0 then F_X9_tellAunt_154 (nI (6 * sd + A)) x2 (nI (6 * sd + A)) σ19 else F_X9_tellAunt_155 (nI (6 * sd + A)) x2 (1 : Int32) (nI (6 * sd + A)) σ19) ∧ p_R σ0 μ0 P m sd (h + 4) (h + 4) τ' ν ∧ c_hd σ τ' ∧ y_ar sd A μ ν ∧ (∀ j, j < 4 → ν.1 (11 + j) (6 * sd + A) = τ'.1 19 j) ∧ (τ'.1 14 10 = 0 → σ.1 14 10 = 0)) ∨ (∃ ρ, F_X9_tellAunt_77 (nI (6 * sd + A)) x2 μ = some ((), ρ) ∧ p_bad σ0 μ0 sd 110 τ ρ ∧ (F_X4_takeNumbers 0 3 9 σ = some (0, τ) ∨ ∃ τ1, F_X4_takeNumbers 0 3 9 σ = some (1, τ1) ∧ F_X4_takeNumbers 3 4 99 τ1 = some (0, τ))) := by
  have hsd := g.2.2.1
  have hi : x_inb (nI (6 * sd + A)) 12 = true := x_inb_nI (by omega) (by decide)
  have ix : x_ix (nI (6 * sd + A)) = 6 * sd + A := x_ix_nI (by omega)
  have pr : ∀ {hh : Nat} {ρ κ : x_Hp} (j : Nat) (v : Int32), p_R σ0 μ0 P m sd hh hh ρ κ → j < 4 → p_R σ0 μ0 P m sd hh hh ρ (x_pI κ (11 + j) (6 * sd + A) v) := fun j v gg hj => gg.pIy (by unfold y_Fs; omega) (by omega) _
  have xr : ∀ {k pl : Nat} {κ : x_Hp} (j : Nat) (v : Int32), y_X sd μ0 k pl 110 κ → j < 4 → y_X sd μ0 k pl 110 (x_pI κ (11 + j) (6 * sd + A) v) := fun j v gg hj => gg.pI (by unfold y_Fs; omega) (by omega) _
  have ar : ∀ {κ κ' : x_Hp} (j : Nat) (v : Int32), y_ar sd A μ κ → y_hd κ κ' → j < 4 → y_ar sd A μ (x_pI κ' (11 + j) (6 * sd + A) v) := fun j v q y hj => ⟨fun a b z1 z2 => by rw [x_pI_1, if_neg (by omega), y.1 a b z1, q.1 a b z1 z2], fun a b => by rw [x_pI_2, y.2, q.2]⟩
  have ar0 : y_ar sd A μ μ := ⟨fun _ _ _ _ => rfl, fun _ _ => rfl⟩
  obtain ⟨τ0, ν0, v0, r0, s0⟩ := p_num (B := 110) ht g hbd (show 9 ≤ 9999 by decide) (show 0 < 3 by decide) (by decide) (x_fuel - 1)
  have r0' : F_X9_bounded 0 9 μ = some (v0, ν0) := r0
  rw [F_X9_tellAunt_77, r0', x_b_s, x_gd_t hi, x_pt_s, ix]
  rcases s0 with ⟨c0, w0, p0, q0, g0, d0, y0, f0, k0, n0⟩ | ⟨c0, k, pl, b0, b1⟩
  rotate_left
  · have X1 := xr 0 v0 b1 (by decide)
    have X2 := xr 1 0 X1 (by decide)
    have X3 := xr 2 0 X2 (by decide)
    have X4 := xr 3 0 X3 (by decide)
    obtain ⟨ρ, e1, e2⟩ := X4.a154 (a := 6 * sd + A) (by omega) (by omega) x2
    refine ⟨τ0, τ0, Or.inr ⟨ρ, ?_, ⟨k, pl, b0, e2⟩, Or.inl c0⟩⟩
    rw [X1.bounded, x_b_s, x_gd_t hi, x_pt_s, X2.bounded, x_b_s, x_gd_t hi, x_pt_s, X3.bounded, x_b_s, x_gd_t hi, x_pt_s, if_neg X4.n0, e1]
  have a0 := ar 0 v0 ar0 y0 (by decide)
  obtain ⟨τ1, ν1, v1, r1, s1⟩ := p_num (B := 110) ht (pr 0 v0 g0 (by decide)) (a0.bd hbd) (show 9 ≤ 9999 by decide) (show 0 + 1 < 3 by decide) (by decide) (x_fuel - 2)
  have r1' : F_X9_bounded 0 9 (x_pI ν0 11 (6 * sd + A) v0) = some (v1, ν1) := r1
  rw [r1', x_b_s, x_gd_t hi, x_pt_s]
  rcases s1 with ⟨c1, w1, p1, q1, g1, d1, y1, f1, k1, n1⟩ | ⟨c1, k, pl, b0, b1⟩
  rotate_left
  · have X2 := xr 1 v1 b1 (by decide)
    have X3 := xr 2 0 X2 (by decide)
    have X4 := xr 3 0 X3 (by decide)
    obtain ⟨ρ, e1, e2⟩ := X4.a154 (a := 6 * sd + A) (by omega) (by omega) x2
    refine ⟨τ1, τ1, Or.inr ⟨ρ, ?_, ⟨k, pl, b0, e2⟩, Or.inl (c0.trans c1)⟩⟩
    rw [X2.bounded, x_b_s, x_gd_t hi, x_pt_s, X3.bounded, x_b_s, x_gd_t hi, x_pt_s, if_neg X4.n0, e1]
  have a1 := ar 1 v1 a0 y1 (by decide)
  obtain ⟨τ2, ν2, v2, r2, s2⟩ := p_num (B := 110) ht (pr 1 v1 g1 (by decide)) (a1.bd hbd) (show 9 ≤ 9999 by decide) (show 0 + 1 + 1 < 3 by decide) (by decide) (x_fuel - 3)
  have r2' : F_X9_bounded 0 9 (x_pI ν1 12 (6 * sd + A) v1) = some (v2, ν2) := r2
  rw [r2', x_b_s, x_gd_t hi, x_pt_s]
  rcases s2 with ⟨c2, w2, p2, q2, g2, d2, y2, f2, k2, n2⟩ | ⟨c2, k, pl, b0, b1⟩
  rotate_left
  · have X3 := xr 2 v2 b1 (by decide)
    have X4 := xr 3 0 X3 (by decide)
    obtain ⟨ρ, e1, e2⟩ := X4.a154 (a := 6 * sd + A) (by omega) (by omega) x2
    refine ⟨τ2, τ2, Or.inr ⟨ρ, ?_, ⟨k, pl, b0, e2⟩, Or.inl ((c0.trans c1).trans c2)⟩⟩
    rw [X3.bounded, x_b_s, x_gd_t hi, x_pt_s, if_neg X4.n0, e1]
  have a2 := ar 2 v2 a1 y2 (by decide)
  have cA : F_X4_takeNumbers 0 3 9 σ = some (1, τ2) := ((c0.trans c1).trans c2).trans (c_num_end (x_fuel - 4) (by decide) (by decide) _ τ2)
  obtain ⟨τ3, ν3, v3, r3, s3⟩ := p_num (B := 110) ht (pr 2 v2 g2 (by decide)) (a2.bd hbd) (show 99 ≤ 9999 by decide) (show 3 < 4 by decide) (by decide) (x_fuel - 1)
  have r3' : F_X9_bounded 0 99 (x_pI ν2 13 (6 * sd + A) v2) = some (v3, ν3) := r3
  rw [r3', x_b_s, x_gd_t hi, x_pt_s]
  rcases s3 with ⟨c3, w3, p3, q3, g3, d3, y3, f3, k3, n3⟩ | ⟨c3, k, pl, b0, b1⟩
  rotate_left
  · have X4 := xr 3 v3 b1 (by decide)
    obtain ⟨ρ, e1, e2⟩ := X4.a154 (a := 6 * sd + A) (by omega) (by omega) x2
    refine ⟨τ3, τ3, Or.inr ⟨ρ, ?_, ⟨k, pl, b0, e2⟩, Or.inr ⟨τ2, cA, c3⟩⟩⟩
    rw [if_neg X4.n0, e1]
  have a3 := ar 3 v3 a2 y3 (by decide)
  have cB : F_X4_takeNumbers 3 4 99 τ2 = some (1, τ3) := c3.trans (c_num_end (x_fuel - 2) (by decide) (by decide) _ τ3)
  have g4 := pr 3 v3 g3 (by decide)
  refine ⟨τ2, _, Or.inl ⟨cA, τ3, cB, ?_, g4, ((d0.tr d1).tr d2).tr d3, a3, fun j hj => ?_, fun e => (n0 (n1 (n2 (n3 e).2).2).2).2⟩⟩
  · rw [if_pos g4.k13]
  · have e : j = 0 ∨ j = 1 ∨ j = 2 ∨ j = 3 := by omega
    rcases e with rfl | rfl | rfl | rfl
    · rw [x_pI_1, if_neg (by omega), y3.1 _ _ (by omega), x_pI_1, if_neg (by omega), y2.1 _ _ (by omega), x_pI_1, if_neg (by omega), y1.1 _ _ (by omega), x_pI_1, if_pos ⟨rfl, rfl⟩, k3 0 (by decide), k2 0 (by decide), k1 0 (by decide), f0, q0]
    · rw [x_pI_1, if_neg (by omega), y3.1 _ _ (by omega), x_pI_1, if_neg (by omega), y2.1 _ _ (by omega), x_pI_1, if_pos ⟨rfl, rfl⟩, k3 1 (by decide), k2 1 (by decide), f1, q1]
    · rw [x_pI_1, if_neg (by omega), y3.1 _ _ (by omega), x_pI_1, if_pos ⟨rfl, rfl⟩, k3 2 (by decide), f2, q2]
    · rw [x_pI_1, if_pos ⟨rfl, rfl⟩, f3, q3]
end AUNT
