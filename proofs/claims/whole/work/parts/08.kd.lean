theorem kd_X3_row {x1 : Int32} {σ τ : x_Hp} {r : Nat} (h : F_X3_row x1 σ = some (r, τ)) : x_kd TX r = 5 := by
  rw [F_X3_row] at h
  split at h
  · obtain ⟨rfl, -⟩ := x_ret h
    exact kX_146
  · split at h
    · obtain ⟨rfl, -⟩ := x_ret h
      exact kX_146
    · obtain ⟨hi, h⟩ := x_gd_some h
      obtain ⟨rfl, -⟩ := x_ret h
      exact t_TX_el kX_144 (x_inl lnX_144 hi)
