theorem x_hp_congr (σ : x_Hp) (s : Nat) {v w : x_V} (c : x_Sc) (h : ∀ k, k < 62 → v k = w k) : x_hp σ s v c = x_hp σ s w c := by
  refine x_ext (fun a b => ?_) rfl
  simp only [x_hp]
  by_cases h1 : a = s
  · by_cases h2 : b < 20
    · simp [h1, h2, h b (by omega)]
    · simp [h1, h2]
  · by_cases h2 : a = s + 1
    · by_cases h3 : b < 42
      · subst h2; simp [h3, h (20 + b) (by omega)]
      · subst h2; simp [h3]
    · simp [h1, h2]
/-- copy(): all of a row into another one -/
theorem e_copy_loop (r0 r1 : Nat) (hne : r0 ≠ r1) (L : Nat) (h0 : x_ln TX r0 = L) (h1 : x_ln TX r1 = L) : ∀ (d n i : Nat) (σ : x_Hp), i + d = L → d < n → F_X8_copy_11 n r0 r1 (nI i) σ = some ((), (x_u σ.1 r1 (fun j => if i ≤ j ∧ j < L then σ.1 r0 j else σ.1 r1 j), σ.2)) := by
  have hL : L < 2 ^ 31 := by rw [← h0]; exact TX_len r0
  intro d
  induction d with
  | zero =>
    intro n i σ hi hn
    obtain ⟨n, rfl⟩ : ∃ m, n = m + 1 := ⟨n - 1, by omega⟩
    rw [F_X8_copy_11, h0, show Int32.ofNat L = nI L from rfl, if_pos (nI_le (by omega) (by omega))]
    congr 2
    refine x_ext (fun a b => ?_) rfl
    simp only [x_u]
    by_cases h : a = r1
    · subst h
      have : ¬ (i ≤ b ∧ b < L) := by omega
      simp [this]
    · simp [h]
  | succ d ih =>
    intro n i σ hi hn
    obtain ⟨n, rfl⟩ : ∃ m, n = m + 1 := ⟨n - 1, by omega⟩
    have hin : x_inb (nI i) L = true := x_inb_nI (by omega) hL
    rw [F_X8_copy_11, h0, h1, show Int32.ofNat L = nI L from rfl, if_neg (nI_ge (by omega) hL), if_neg (nI_ge (by omega) hL), x_gd_t hin, x_gd_t hin, x_pt_s, x_ix_nI (by omega), nI_1, ih n (i + 1) _ (by omega) (by omega)]
    congr 2
    refine x_ext (fun a b => ?_) rfl
    simp only [x_u, x_pI_1]
    by_cases h : a = r1
    · subst h
      by_cases hb : b = i
      · subst hb
        have e1 : ¬ (b + 1 ≤ b ∧ b < L) := by omega
        have e2 : b ≤ b ∧ b < L := by omega
        simp [e2.2]
      · by_cases hb2 : i ≤ b ∧ b < L
        · have e1 : i + 1 ≤ b ∧ b < L := by omega
          simp [hb2, e1, hne]
        · have e1 : ¬ (i + 1 ≤ b ∧ b < L) := by omega
          simp [hb2, e1, hb]
    · simp [h, x_pI_1]
theorem e_copy (r0 r1 : Nat) (hne : r0 ≠ r1) {L : Nat} (h0 : x_ln TX r0 = L) (h1 : x_ln TX r1 = L) (hL : L < 60000) (σ : x_Hp) : F_X8_copy r0 r1 σ = some ((), (x_u σ.1 r1 (fun j => if j < L then σ.1 r0 j else σ.1 r1 j), σ.2)) := by
  rw [F_X8_copy, show (0 : Int32) = nI 0 from rfl, e_copy_loop r0 r1 hne L h0 h1 L x_fuel 0 σ (by omega) (by rw [x_fuel]; omega)]
  simp
theorem x_St.apart {s t : Nat} (hs : x_St s) (ht : x_St t) (h : s ≠ t) : t ≠ s + 1 ∧ s ≠ t + 1 := by
  have h1 := hs.facts.2.2.2.2
  have h2 := ht.facts.2.2.2.2
  constructor
  · intro e; rw [← e] at h1; rw [show x_kd TX t = 5 from ht] at h1; cases h1
  · intro e; rw [← e] at h2; rw [show x_kd TX s = 5 from hs] at h2; cases h2
theorem e_take {s t : Nat} (hs : x_St s) (ht : x_St t) (hne : s ≠ t) (σ : x_Hp) (v : x_V) (c : x_Sc) : F_X5_takeFrom s t (x_hp σ s v c) = some ((), x_hp σ s (x_gS σ t) c) := by
  obtain ⟨n1, n2⟩ := hs.apart ht hne
  obtain ⟨s1, -, s20, s42, -⟩ := hs.facts
  obtain ⟨t1, -, t20, t42, -⟩ := ht.facts
  have rd : ∀ (v : x_V) (k : Nat), (x_hp σ s v c).1 t k = σ.1 t k := fun v k => x_hp_oth σ s v c k (Ne.symm hne) n1 (by omega) (by omega)
  have rt : ∀ (v : x_V) (k : Nat), (x_hp σ s v c).1 (t + 1) k = σ.1 (t + 1) k := fun v k => x_hp_oth σ s v c k (by omega) (by omega) (by omega) (by omega)
  simp only [F_X5_takeFrom, x_pt_s, rd, x_hp_put, Nat.reduceLT, s20, t20]
  rw [e_copy (t + 1) (s + 1) (by omega) t42 s42 (by decide), x_b_s]
  congr 2
  refine x_ext (fun a b => ?_) rfl
  simp only [x_u, rt]
  by_cases ha : a = s
  · subst ha
    simp only [x_hp, x_gS]
    by_cases hb : b < 20
    · simp only [hb, if_true]
      rw [if_neg (by omega)]
      have h20 : b = 0 ∨ b = 1 ∨ b = 2 ∨ b = 3 ∨ b = 4 ∨ b = 5 ∨ b = 6 ∨ b = 7 ∨ b = 8 ∨ b = 9 ∨ b = 10 ∨ b = 11 ∨ b = 12 ∨ b = 13 ∨ b = 14 ∨ b = 15 ∨ b = 16 ∨ b = 17 ∨ b = 18 ∨ b = 19 := by omega
      rcases h20 with rfl | rfl | rfl | rfl | rfl | rfl | rfl | rfl | rfl | rfl | rfl | rfl | rfl | rfl | rfl | rfl | rfl | rfl | rfl | rfl <;> rfl
    · simp [hb]
  · by_cases ha2 : a = s + 1
    · subst ha2
      simp only [x_hp, x_gS]
      by_cases hb : b < 42
      · have : ¬ 20 + b < 20 := by omega
        simp [hb, this]
      · simp [hb]
    · simp [ha2, x_hp, ha]
