section RR
variable {μ : x_Hp} {T : x_TT} {lv N : Nat}
theorem m_beh_nI (hN7 : T.1 1 7 = nI N) {w : Nat} (hw : w < N) (hN : N ≤ 6) : m_beh T (nI w) = nI ((w + 1) % N) := by
  rw [m_beh, hN7, nI_1]
  by_cases h : N ≤ w + 1
  · rw [if_pos (nI_le h (by omega))]
    have : w + 1 = N := by omega
    rw [this, Nat.mod_self]; rfl
  · rw [if_neg (nI_ge (by omega) (by omega)), Nat.mod_eq_of_lt (by omega)]
theorem y_rule (hT : y_Tx μ T lv N) (hB : m_TB T N) (h51 : μ.1 0 51 = -1) (rule m : Int32) (hr : rule = 0 ∨ rule = 1 ∨ rule = 2 ∨ rule = 3) : ∀ (d n i : Nat) (v : x_V) (c : y_Sc), y_G μ T N v → i + d < 2 ^ 31 → d < n → ∃ c2, F_X9_rounds_7 n rule m (nI (i + d)) (nI i) (z_hp μ v c) = some ((), z_hp μ (m_rus T N rule m d v) c2) := by
  have hN : N ≤ 6 := hT.2.1
  have lt : ∀ a b : Int32, a < b ↔ ¬ b ≤ a := fun a b => by rw [Int32.lt_iff_toInt_lt, Int32.le_iff_toInt_le]; omega
  intro d
  induction d with
  | zero =>
    intro n i v c hG h1 h2
    obtain ⟨n, rfl⟩ : ∃ m, n = m + 1 := ⟨n - 1, by omega⟩
    rw [F_X9_rounds_7, if_pos (by simp)]
    exact ⟨c, rfl⟩
  | succ d ih =>
    intro n i v c hG h1 h2
    obtain ⟨n, rfl⟩ : ∃ m, n = m + 1 := ⟨n - 1, by omega⟩
    have k121 : ∀ (u : x_V), y_G μ T N u → ∃ c2, F_X9_rounds_121 (F_X9_rounds_7 n) rule m (nI (i + (d + 1))) (nI i) (z_hp μ u c) = some ((), z_hp μ (m_rus T N rule m d (m_step T u)) c2) := by
      intro u hu
      rw [F_X9_rounds_121]
      refine y_be (h := fun c => z_hp μ _ c) (g := fun c => z_hp μ _ c) (y_stepG hT hu c) (fun c => ?_)
      have := ih n (i + 1) (m_step T u) c (hu.step hT) (by omega) (by omega)
      rw [show i + 1 + d = i + (d + 1) by omega, ← nI_1] at this
      exact this
    have k0 : ∃ c2, F_X9_rounds_57 (F_X9_rounds_7 n) rule m (nI (i + (d + 1))) (nI i) 0 (z_hp μ v c) = some ((), z_hp μ (m_rus T N rule m d (m_step T v)) c2) := by
      rw [F_X9_rounds_57, if_pos rfl]; exact k121 v hG
    obtain ⟨hI, w, hw, hC⟩ := id hG
    obtain ⟨hlv, -, h18, hN7, h10, -⟩ := id hT
    have hbeh := m_beh_nI hN7 hw hN
    have k1 : ∃ c2, F_X9_rounds_57 (F_X9_rounds_7 n) rule m (nI (i + (d + 1))) (nI i) 1 (z_hp μ v c) = some ((), z_hp μ (m_rus T N rule m d (m_step T (if v 13 = 0 then (if (if rule = 2 then m_few v N 0 (v 9) else m_beh T (v 9)) = v 9 then v else m_over T v (if rule = 2 then m_few v N 0 (v 9) else m_beh T (v 9))) else v))) c2) := by
      rw [F_X9_rounds_57, if_neg (by decide), z_get μ v c 13 (k := 7) rfl (by decide) (by decide)]
      by_cases h13 : v 13 = 0
      · rw [if_pos h13, if_pos h13, z_0 μ _ c (by decide), h18, x_gd_t (x_inb_nI hlv (by decide)), x_ix_nI (by omega), z_lo μ _ c (a := 10) _ (by decide) (by decide), h10]
        by_cases hN1 : N ≤ 1
        · have w0 : w = 0 := by omega
          have n1 : N = 1 := by omega
          have eb : m_beh T (v 9) = v 9 := by rw [hC.1, hbeh, w0, n1]
          have ef : m_few v N 0 (v 9) = v 9 := by
            rw [n1, m_few, if_pos (by rw [hC.1, w0]), m_few]
          rw [if_pos (by rw [n1]; decide), eb, ef]
          simp only [if_true, ite_self]
          exact k121 v hG
        · rw [if_neg (by show ¬ nI N ≤ nI 1; exact nI_ge (by omega) (by omega))]
          by_cases h2 : rule = 2
          · obtain ⟨ne, j, hj, ej⟩ := m_few_other v hC.1 hw (by omega) hN
            simp only [if_pos h2]
            rw [if_neg ne, y_few hT hw hC.1, x_b_s, if_neg ne, F_X9_rounds_118, ej, y_hands hT hB hI c hj, x_b_s]
            exact k121 _ (hG.over hT hB h51 hj)
          · simp only [if_neg h2]
            have ne : ¬ m_beh T (v 9) = v 9 := by
              rw [hC.1, hbeh]
              intro q
              have hml : (w + 1) % N < N := Nat.mod_lt _ (by omega)
              have := (nI_eq (by omega) (by omega)).mp q
              by_cases hh : w + 1 = N
              · rw [hh, Nat.mod_self] at this; omega
              · rw [Nat.mod_eq_of_lt (by omega)] at this; omega
            have hn0 : (!decide (nI N = 0)) = true := by
              have := nI_ne0 (n := N) (by omega) (by omega)
              simpa using this
            rw [if_neg ne, x_gd_t (x_inb_nI hlv (by decide)), x_gd_t hn0, z_get μ v c 9 (k := 4) rfl (by decide) (by decide), hC.1, nI_1, pk_rem (by omega) (by omega) (by omega), F_X9_rounds_118, y_hands hT hB hI c (Nat.mod_lt _ (by omega)), x_b_s, hbeh]
            exact k121 _ (hG.over hT hB h51 (Nat.mod_lt _ (by omega)))
      · rw [if_neg h13, if_neg h13]; exact k121 v hG
    rw [F_X9_rounds_7, if_neg (nI_ge (by omega) (by omega)), m_rus, m_ru]
    by_cases r1 : rule = 1
    · rw [if_pos r1, z_get μ v c 12 (k := 6) rfl (by decide) (by decide)]
      by_cases hm : v 12 < m
      · have ht : m_tg T N rule m v = v 9 := by rw [m_tg, if_neg (fun q => absurd (r1.symm.trans q.1) (by decide)), if_neg (fun q => (lt _ _).mp hm q.2), if_neg (fun q => absurd (r1.symm.trans q.1) (by decide))]
        rw [if_pos hm, ht]
        simp only [if_true, ite_self]
        exact k0
      · have ht : m_tg T N rule m v = (if rule = 2 then m_few v N 0 (v 9) else m_beh T (v 9)) := by
          rw [m_tg, if_neg (fun q => absurd (r1.symm.trans q.1) (by decide)), if_pos ⟨r1, by rw [lt] at hm; exact Classical.not_not.mp hm⟩, if_neg (by rw [r1]; decide)]
        rw [if_neg hm, ht]
        exact k1
    · rw [if_neg r1]
      by_cases r3 : rule = 3
      · have ht : m_tg T N rule m v = v 9 := by rw [m_tg, if_neg (fun q => absurd (r3.symm.trans q.1) (by decide)), if_neg (fun q => r1 q.1), if_neg (fun q => absurd (r3.symm.trans q.1) (by decide))]
        rw [if_pos r3, F_X9_rounds_56, ht]
        simp only [if_true, ite_self]
        exact k0
      · have r02 : rule = 0 ∨ rule = 2 := by
          rcases hr with q | q | q | q
          · exact Or.inl q
          · exact absurd q r1
          · exact Or.inr q
          · exact absurd q r3
        rw [if_neg r3, z_get μ v c 4 (k := 5) rfl (by decide) (by decide)]
        by_cases hm : v 4 < m
        · have ht : m_tg T N rule m v = v 9 := by rw [m_tg, if_neg (fun q => (lt _ _).mp hm q.2), if_neg (fun q => r1 q.1), if_neg (fun q => (lt _ _).mp hm q.2)]
          rw [if_pos hm, F_X9_rounds_56, ht]
          simp only [if_true, ite_self]
          exact k0
        · have hm' : m ≤ v 4 := by rw [lt] at hm; exact Classical.not_not.mp hm
          have ht : m_tg T N rule m v = (if rule = 2 then m_few v N 0 (v 9) else m_beh T (v 9)) := by
            rw [m_tg]
            rcases r02 with q | q
            · rw [if_pos ⟨q, hm'⟩, if_neg (by rw [q]; decide)]
            · rw [if_neg (fun z => absurd (q.symm.trans z.1) (by decide)), if_neg (fun z => r1 z.1), if_pos ⟨q, hm'⟩, if_pos q]
          rw [if_neg hm, ht]
          exact k1
end RR
