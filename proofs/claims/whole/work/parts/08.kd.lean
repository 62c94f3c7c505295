theorem kd_X3_row {o : Nat} {x1 : Int32} {σ τ : x_Hp} {r : Nat} (hk : x_kd TX o = 3) (h : F_X3_row o x1 σ = some (r, τ)) : x_kd TX r = 5 := by
  rw [F_X3_row] at h
  split at h
  · obtain ⟨rfl, -⟩ := x_ret h
    exact t_TX_3_3 hk
  · split at h
    · obtain ⟨rfl, -⟩ := x_ret h
      exact t_TX_3_3 hk
    · obtain ⟨hi, h⟩ := x_gd_some h
      obtain ⟨rfl, -⟩ := x_ret h
      exact t_TX_el (t_TX_3_1 hk) hi
