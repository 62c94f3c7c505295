theorem m_gv_c (T : x_TT) (a : Int32) {v w : x_V} (h : ∀ k, k < 62 → k ≠ 4 → k ≠ 5 → k ≠ 6 → k ≠ 7 → k ≠ 9 → v k = w k) (k : Nat) (hk : k < 62) : m_gv T v a k = m_gv T w a k := by
  simp only [m_gv, x_u]
  by_cases h7 : k = 7
  · simp [h7]
  · by_cases h6 : k = 6
    · simp [h6]
    · by_cases h5 : k = 5
      · simp [h5]
      · by_cases h4 : k = 4
        · simp [h4]
        · by_cases h9 : k = 9
          · simp [h9]
          · simp [h7, h6, h5, h4, h9, h k hk h4 h5 h6 h7 h9]
theorem m_give_c (T : x_TT) (a : Int32) {v w : x_V} (h : ∀ k, k < 62 → k ≠ 4 → k ≠ 5 → k ≠ 6 → k ≠ 7 → k ≠ 9 → v k = w k) (k : Nat) (hk : k < 62) : m_give T v a k = m_give T w a k := by
  simp only [m_give]
  split
  · exact m_gv_c T a h k hk
  · rw [m_gv_c T a h 19 (by decide)]
    simp only [x_u]
    split
    · rfl
    · exact m_gv_c T a h k hk
section DAY2
variable {s : Nat} {σ : x_Hp} {T : x_TT}
theorem e_keep (hs : x_St s) (hT : x_Tx σ T) (v : x_V) (c : x_Sc) (a : Int32) {m : Nat} (hm : m ≤ 20) : ∃ c2, F_X0_keep 34 s a (nI m) (x_hp σ s v c) = some ((), x_hp σ s (m_keep T v a m) c2) := by
  have loop : ∀ (d n i : Nat) (v : x_V) (c : x_Sc) (l : Int32), i + d = m * 61 → d < n → ∃ c2, F_X0_keep_20 n 34 s (nI m) l (nI i) (x_hp σ s v c) = some ((), x_hp σ s (m_kp T d v l) c2) := by
    intro d
    induction d with
    | zero =>
      intro n i v c l h1 h2
      obtain ⟨n, rfl⟩ : ∃ m, n = m + 1 := ⟨n - 1, by omega⟩
      rw [F_X0_keep_20, show nI m * (61 : Int32) = nI (m * 61) from pk_mul m 61, if_pos (nI_le (by omega) (by omega))]
      exact ⟨c, rfl⟩
    | succ d ih =>
      intro n i v c l h1 h2
      obtain ⟨n, rfl⟩ : ∃ m, n = m + 1 := ⟨n - 1, by omega⟩
      have go : ∀ (v : x_V) (c : x_Sc) (l : Int32), ∃ c2, F_X0_keep_51 (F_X0_keep_20 n) 34 s (nI m) l (nI i) (x_hp σ s v c) = some ((), x_hp σ s (m_kp T d (m_step T v) l) c2) := by
        intro v c l
        rw [F_X0_keep_51]
        refine x_be (h := fun c => x_hp σ s _ c) (g := fun c => x_hp σ s _ c) (e_step hs hT v c) (fun c => ?_)
        have := ih n (i + 1) (m_step T v) c l (by omega) (by omega)
        rw [← nI_1] at this
        exact this
      have go2 : ∃ c2, F_X0_keep_41 (F_X0_keep_20 n) 34 s (nI m) l (nI i) (x_hp σ s v c) = some ((), x_hp σ s (m_kp T d (m_step T v) (if v 13 = 0 then l - 1 else l)) c2) := by
        rw [F_X0_keep_41, x_hp_get _ _ _ _ (by decide)]
        by_cases h : v 13 = 0
        · rw [if_pos h, if_pos h, show l + (-1 : Int32) = l - 1 from (Int32.sub_eq_add_neg l 1).symm]; exact go v c _
        · rw [if_neg h, if_neg h]; exact go v c _
      rw [F_X0_keep_20, show nI m * (61 : Int32) = nI (m * 61) from pk_mul m 61, if_neg (nI_ge (by omega) (by omega)), m_kp, x_hp_get _ _ _ _ (by decide)]
      by_cases h : 0 < l
      · rw [if_pos h, if_pos (Or.inl h)]; exact go2
      · by_cases h2 : v 13 ≤ 0
        · rw [if_neg h, if_pos h2, if_neg (by rintro (q | q); exact h q; exact q h2)]; exact ⟨c, rfl⟩
        · rw [if_neg h, if_neg h2, if_pos (Or.inr h2)]; exact go2
  have k14 : ∀ (v : x_V) (c : x_Sc), ∃ c2, F_X0_keep_14 34 s (nI m) (x_hp σ s v c) = some ((), x_hp σ s (m_kp T (m * 61) v (nI m)) c2) := by
    intro v c
    rw [F_X0_keep_14]
    exact loop (m * 61) x_fuel 0 v c (nI m) (by omega) (by rw [x_fuel]; omega)
  rw [F_X0_keep, x_hp_get _ _ _ _ (by decide), m_keep]
  by_cases h : v 9 = a
  · rw [if_pos h, if_pos h]; exact k14 v c
  · rw [if_neg h, if_neg h, e_over hs hT, x_b_s]; exact k14 _ c
theorem e_beh (hs : x_St s) (hT : x_Tx σ T) (v : x_V) (c : x_Sc) (a : Int32) : F_X0_behind 34 a (x_hp σ s v c) = some (m_beh T a, x_hp σ s v c) := by
  rw [F_X0_behind, rfX_34_0, x_tx1 hs hT, m_beh]
  split <;> rfl
theorem e_few (hs : x_St s) (hT : x_Tx σ T) (v : x_V) (c : x_Sc) {N : Nat} (hN : T.1 1 7 = nI N) (hN6 : N ≤ 6) : F_X0_fewest 34 s (x_hp σ s v c) = some (m_few v N 0 (v 9), x_hp σ s v c) := by
  have loop : ∀ (d n i : Nat) (f : Int32), i + d = N → d < n → F_X0_fewest_7 n 34 s f (nI i) (x_hp σ s v c) = some (m_few v d i f, x_hp σ s v c) := by
    intro d
    induction d with
    | zero =>
      intro n i f h1 h2
      obtain ⟨n, rfl⟩ : ∃ m, n = m + 1 := ⟨n - 1, by omega⟩
      rw [F_X0_fewest_7, rfX_34_0, x_tx1 hs hT, hN, if_pos (nI_le (by omega) (by omega)), m_few]
    | succ d ih =>
      intro n i f h1 h2
      obtain ⟨n, rfl⟩ : ∃ m, n = m + 1 := ⟨n - 1, by omega⟩
      have go : ∀ f, F_X0_fewest_51 (F_X0_fewest_7 n) 34 s f (nI i) (x_hp σ s v c) = some (m_few v d (i + 1) f, x_hp σ s v c) := by
        intro f
        rw [F_X0_fewest_51, nI_1]
        exact ih n (i + 1) f (by omega) (by omega)
      have go2 : F_X0_fewest_49 (F_X0_fewest_7 n) 34 s (nI i) (x_hp σ s v c) = some (m_few v d (i + 1) (nI i), x_hp σ s v c) := by
        rw [F_X0_fewest_49]; exact go _
      rw [F_X0_fewest_7, rfX_34_0, x_tx1 hs hT, hN, if_neg (nI_ge (by omega) (by omega)), x_hp_get _ _ _ _ (by decide), m_few]
      by_cases h : nI i = v 9
      · rw [if_pos h, if_pos h]; exact go f
      · rw [if_neg h, if_neg h]
        by_cases hf : f = v 9
        · rw [if_pos hf, if_pos hf]; exact go2
        · rw [if_neg hf, if_neg hf, e_tallied hs, x_b_s, e_tallied hs, x_b_s]
          by_cases ht : m_tal v f 0 ≤ m_tal v (nI i) 0
          · rw [if_pos ht, if_pos ht]; exact go f
          · rw [if_neg ht, if_neg ht]; exact go2
  rw [F_X0_fewest, x_hp_get _ _ _ _ (by decide)]
  exact loop N x_fuel 0 (v 9) (by omega) (by rw [x_fuel]; omega)
theorem e_rule (hs : x_St s) (hT : x_Tx σ T) {N : Nat} (hN : T.1 1 7 = nI N) (hN6 : N ≤ 6) (rule m : Int32) : ∀ (d n i : Nat) (v : x_V) (c : x_Sc), i + d < 2 ^ 31 → d < n → ∃ c2, F_X0_goByRule_3 n 34 s rule m (nI (i + d)) (nI i) (x_hp σ s v c) = some ((), x_hp σ s (m_rus T N rule m d v) c2) := by
  intro d
  induction d with
  | zero =>
    intro n i v c h1 h2
    obtain ⟨n, rfl⟩ : ∃ m, n = m + 1 := ⟨n - 1, by omega⟩
    rw [F_X0_goByRule_3, if_pos (by simp)]
    exact ⟨c, rfl⟩
  | succ d ih =>
    intro n i v c h1 h2
    obtain ⟨n, rfl⟩ : ∃ m, n = m + 1 := ⟨n - 1, by omega⟩
    have k97 : ∀ (w : x_V), ∃ c2, F_X0_goByRule_97 (F_X0_goByRule_3 n) 34 s rule m (nI (i + (d + 1))) (nI i) (x_hp σ s w c) = some ((), x_hp σ s (m_rus T N rule m d (m_step T w)) c2) := by
      intro w
      rw [F_X0_goByRule_97]
      refine x_be (h := fun c => x_hp σ s _ c) (g := fun c => x_hp σ s _ c) (e_step hs hT w c) (fun c => ?_)
      have := ih n (i + 1) (m_step T w) c (by omega) (by omega)
      rw [show i + 1 + d = i + (d + 1) by omega, ← nI_1] at this
      exact this
    have k81 : ∀ a : Int32, ∃ c2, F_X0_goByRule_81 (F_X0_goByRule_3 n) 34 s rule m (nI (i + (d + 1))) (nI i) a (x_hp σ s v c) = some ((), x_hp σ s (m_rus T N rule m d (m_step T (if a = v 9 then v else m_over T v a))) c2) := by
      intro a
      rw [F_X0_goByRule_81, x_hp_get _ _ _ _ (by decide)]
      by_cases h : a = v 9
      · rw [if_pos h, if_pos h]; exact k97 v
      · rw [if_neg h, if_neg h, e_over hs hT, x_b_s]; exact k97 _
    have k48 : ∃ c2, F_X0_goByRule_48 (F_X0_goByRule_3 n) 34 s rule m (nI (i + (d + 1))) (nI i) (x_hp σ s v c) = some ((), x_hp σ s (m_rus T N rule m d (m_step T (if m_beh T (v 9) = v 9 then v else m_over T v (m_beh T (v 9))))) c2) := by
      rw [F_X0_goByRule_48, x_hp_get _ _ _ _ (by decide), e_beh hs hT, x_b_s]; exact k81 _
    have lt : ∀ a b : Int32, a < b ↔ ¬ b ≤ a := fun a b => by rw [Int32.lt_iff_toInt_lt, Int32.le_iff_toInt_le]; omega
    rw [F_X0_goByRule_3, if_neg (nI_ge (by omega) (by omega)), x_hp_get _ _ _ _ (by decide), x_hp_get _ _ _ _ (by decide), x_hp_get _ _ _ _ (by decide), m_rus, m_ru]
    by_cases ha : v 13 = 0
    · rw [if_pos ha, if_pos ha]
      have k61 : rule ≠ 0 → rule ≠ 1 → ∃ c2, F_X0_goByRule_61 (F_X0_goByRule_3 n) 34 s rule m (nI (i + (d + 1))) (nI i) (v 9) (x_hp σ s v c) = some ((), x_hp σ s (m_rus T N rule m d (m_step T (if m_tg T N rule m v = v 9 then v else m_over T v (m_tg T N rule m v)))) c2) := by
        intro h0 h1
        rw [F_X0_goByRule_61, x_hp_get _ _ _ _ (by decide)]
        by_cases hr : rule = 2
        · rw [if_pos hr]
          by_cases hm : v 4 < m
          · have ht : m_tg T N rule m v = v 9 := by rw [m_tg, if_neg (fun q => h0 q.1), if_neg (fun q => h1 q.1), if_neg (fun q => (lt _ _).mp hm q.2)]
            rw [if_pos hm, ht]; exact k81 _
          · have ht : m_tg T N rule m v = m_few v N 0 (v 9) := by rw [m_tg, if_neg (fun q => h0 q.1), if_neg (fun q => h1 q.1), if_pos ⟨hr, by rw [lt] at hm; exact Classical.not_not.mp hm⟩]
            rw [if_neg hm, e_few hs hT v c hN hN6, x_b_s, ht]; exact k81 _
        · have ht : m_tg T N rule m v = v 9 := by rw [m_tg, if_neg (fun q => h0 q.1), if_neg (fun q => h1 q.1), if_neg (fun q => hr q.1)]
          rw [if_neg hr, ht]; exact k81 _
      by_cases h0 : rule = 0
      · rw [if_pos h0]
        by_cases hm : m ≤ v 4
        · have ht : m_tg T N rule m v = m_beh T (v 9) := by rw [m_tg, if_pos ⟨h0, hm⟩]
          rw [if_pos hm, ht]; exact k48
        · have ht : m_tg T N rule m v = v 9 := by rw [m_tg, if_neg (fun q => hm q.2), if_neg (fun q => absurd (h0.symm.trans q.1) (by decide)), if_neg (fun q => absurd (h0.symm.trans q.1) (by decide))]
          rw [if_neg hm, F_X0_goByRule_35, if_neg (by rw [h0]; decide), F_X0_goByRule_61, if_neg (by rw [h0]; decide), ht]
          exact k81 _
      · rw [if_neg h0, F_X0_goByRule_35]
        by_cases h1 : rule = 1
        · rw [if_pos h1, x_hp_get _ _ _ _ (by decide)]
          by_cases hm : v 12 < m
          · have ht : m_tg T N rule m v = v 9 := by rw [m_tg, if_neg (fun q => h0 q.1), if_neg (fun q => (lt _ _).mp hm q.2), if_neg (fun q => absurd (h1.symm.trans q.1) (by decide))]
            rw [if_pos hm, F_X0_goByRule_61, if_neg (by rw [h1]; decide), ht]
            exact k81 _
          · have ht : m_tg T N rule m v = m_beh T (v 9) := by rw [m_tg, if_neg (fun q => h0 q.1), if_pos ⟨h1, by rw [lt] at hm; exact Classical.not_not.mp hm⟩]
            rw [if_neg hm, ht]; exact k48
        · rw [if_neg h1]; exact k61 h0 h1
    · rw [if_neg ha, if_neg ha]; exact k97 v
theorem e_begin (hs : x_St s) (hT : x_Tx σ T) (v : x_V) (c : x_Sc) : F_X0_begin 34 s (x_hp σ s v c) = some ((), x_hp σ s (m_beg T) c) := by
  obtain ⟨s1, -, s20, s42, -⟩ := hs.facts
  have loop : ∀ (d n i : Nat) (v : x_V), i + d = 42 → d < n → F_X0_begin_109 n 34 s (nI i) (x_hp σ s v c) = some ((), x_hp σ s (m_give T (fun k => if 20 + i ≤ k ∧ k < 62 then 0 else v k) (if T.1 1 7 ≤ 0 then -2 else 0)) c) := by
    intro d
    induction d with
    | zero =>
      intro n i v h1 h2
      obtain ⟨n, rfl⟩ : ∃ m, n = m + 1 := ⟨n - 1, by omega⟩
      have e : (fun k => if 20 + i ≤ k ∧ k < 62 then 0 else v k) = v := by
        funext k
        rw [if_neg (by omega)]
      rw [e, F_X0_begin_109, s20, s42, if_pos (by show nI 42 ≤ nI i; exact nI_le (by omega) (by omega)), rfX_34_0, x_tx1 hs hT]
      by_cases h : T.1 1 7 ≤ 0
      · rw [if_pos h, if_pos h, F_X0_begin_149, e_give hs hT, x_b_s]
      · rw [if_neg h, if_neg h, F_X0_begin_149, e_give hs hT, x_b_s]
    | succ d ih =>
      intro n i v h1 h2
      obtain ⟨n, rfl⟩ : ∃ m, n = m + 1 := ⟨n - 1, by omega⟩
      rw [F_X0_begin_109, s20, s42, if_neg (by show ¬ nI 42 ≤ nI i; exact nI_ge (by omega) (by omega)), x_gd_t (x_inb_nI (by omega) (by decide)), x_pt_s, x_ix_nI (by omega), x_hp_putT _ _ _ _ (by omega), nI_1, ih n (i + 1) _ (by omega) (by omega)]
      congr 4
      congr 1
      funext k
      simp only [x_u]
      by_cases h : k = 20 + i
      · subst h; simp; omega
      · by_cases h2 : 20 + i ≤ k ∧ k < 62
        · have : 20 + (i + 1) ≤ k ∧ k < 62 := by omega
          simp [h2, this]
        · have : ¬ (20 + (i + 1) ≤ k ∧ k < 62) := by omega
          simp [h2, this, h]
  simp only [F_X0_begin, x_pt_s, x_hp_put, Nat.reduceLT, rfX_34_0, x_tx1 hs hT]
  rw [show (0 : Int32) = nI 0 from rfl, loop 42 x_fuel 0 _ (by omega) (by rw [x_fuel]; omega)]
  refine congrArg (fun z => some ((), z)) (x_hp_congr σ s c (m_give_c T _ (fun k hk h4 h5 h6 h7 h9 => ?_)))
  by_cases h20 : 20 ≤ k
  · have e1 : 20 + 0 ≤ k ∧ k < 62 := ⟨by omega, hk⟩
    have e2 : ¬ k < 4 := by omega
    have e3 : k ≠ 16 := by omega
    have e4 : ¬ (k = 10 ∨ k = 11) := by omega
    simp [m_beg0, e1, e2, e3, e4]
  · have h : k = 0 ∨ k = 1 ∨ k = 2 ∨ k = 3 ∨ k = 8 ∨ k = 10 ∨ k = 11 ∨ k = 12 ∨ k = 13 ∨ k = 14 ∨ k = 15 ∨ k = 16 ∨ k = 17 ∨ k = 18 ∨ k = 19 := by omega
    rcases h with rfl | rfl | rfl | rfl | rfl | rfl | rfl | rfl | rfl | rfl | rfl | rfl | rfl | rfl | rfl <;> rfl
end DAY2
