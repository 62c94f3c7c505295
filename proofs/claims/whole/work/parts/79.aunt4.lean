/-! READING: an aunt, both -/
section AUNT4
variable {σ0 μ0 : x_Hp} {K P : Nat → Nat} {m sd h : Nat}
theorem c_57 (y1 : Int64) (σ : x_Hp) : F_X4_tellAunt_57 y1 σ = x_b (F_X4_take_ (30 : Int32) σ) (fun v7 σ7 => if v7 = 0 then some ((0 : Int32), σ7) else c_CR y1 σ7) := rfl
/-- from the name on, when it is new to both or no name -/
theorem p_aunt_new (ht : t_fin σ0 μ0 K P m) {A S N C bn : Nat} {L : x_LW} {σ μ : x_Hp} {y1 : Int64} (hA : A < 6) (hb4 : 4 * bn ≤ h) (g : p_R σ0 μ0 P m sd h h σ μ) (t : p_TL sd S N C bn h 7 L σ μ) (tn : p_TN sd A σ μ) (hy : K h = 30 → μ.2 6 h = y1 ∧ ∀ a, a < A → ¬ lg_cmp (μ.2 8 a) (μ.2 6 h) = 0) : p_GO σ0 μ0 P m sd h (F_X4_tellAunt_57 y1 σ) (x_b (F_X9_must (1 : Int32) μ) (fun _ σ3 => F_X9_tellAunt_34 x_fuel (nI (6 * sd + A)) (nI h) (0 : Int32) σ3)) := by
  have h4 := g.2.2.2.1
  have hsd := g.2.2.1
  have hbd := t.bd h4.1 hb4
  rw [c_57]
  rcases p_must ht g (by omega) hbd (kc := 30) (by unfold n_kd; omega) (by decide) with ⟨m1, m2, m3, m4, m5⟩ | ⟨τ', ν', m3, m4, k, pl, m5, m6⟩
  · have m3' : F_X4_take_ 30 σ = some (1, x_pI σ 14 6 (nI (h + 1))) := m3
    have m4' : F_X9_must 1 μ = some ((), x_pI μ 0 11 (nI (h + 1))) := m4
    obtain ⟨hy1, hy2⟩ := hy m1
    have cc : c_hd σ (x_pI σ 14 6 (nI (h + 1))) := c_hd.pI _ (by omega) _
    have yy : y_ar sd A μ (x_pI μ 0 11 (nI (h + 1))) := ⟨fun a b z1 z2 => by rw [x_pI_1, if_neg (by omega)], fun a b => rfl⟩
    have lp := (y_34 (μ := x_pI μ 0 11 (nI (h + 1))) (A := A) (x2 := h) (by omega) (by omega) (by rw [x_pI_1, if_neg (by omega)]; exact tn.2.2.1) m5.k13 (nI (6 * sd + A)) A 0 x_fuel (by omega) (by rw [x_fuel]; omega)).1 (fun a _ a2 => hy2 a a2)
    have lp' : F_X9_tellAunt_34 x_fuel (nI (6 * sd + A)) (nI h) 0 (x_pI μ 0 11 (nI (h + 1))) = F_X9_tellAunt_77 (nI (6 * sd + A)) (nI h) (x_pI μ 0 11 (nI (h + 1))) := lp
    rw [m3', x_b_s, if_neg (show ¬ (1 : Int32) = 0 by decide), m4', x_b_s, lp']
    exact (p_tail ht hA (by omega) (show (x_pI μ 0 11 (nI (h + 1))).2 6 h = y1 from hy1) (by omega) m5 (t.ag (by omega) (fun a b q1 q2 => cc.1 a b (by omega) (by omega)) (fun a b q => yy.1 a b (by omega) (by omega))) (tn.ar cc yy (fun e => by rw [x_pI_1, if_neg (by omega)] at e; exact e))).mono (by omega)
  · have m3' : F_X4_take_ 30 σ = some (0, τ') := m3
    have m4' : F_X9_must 1 μ = some ((), ν') := m4
    have b34 : F_X9_tellAunt_34 x_fuel (nI (6 * sd + A)) (nI h) 0 ν' = F_X9_tellAunt_77 (nI (6 * sd + A)) (nI h) ν' := by
      show F_X9_tellAunt_34 ((x_fuel - 1) + 1) (nI (6 * sd + A)) (nI h) 0 ν' = _
      rw [F_X9_tellAunt_34, if_neg m6.n0]
      split <;> rfl
    obtain ⟨ρ, r1, r2⟩ := m6.aunt77 (a := 6 * sd + A) (by omega) (by omega) (nI h)
    exact ⟨τ', ρ, by rw [m4', x_b_s, b34, r1], Or.inr ⟨by rw [m3', x_b_s, if_pos rfl], k, pl, m5, r2.mono (by omega)⟩⟩
end AUNT4
