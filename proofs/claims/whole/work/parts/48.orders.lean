/-! ALL ORDERS, both sides -/
section V1
variable {T : x_TT} {lv N t m : Nat} {v : x_V} {l : List Nat}
theorem y_luck {κ : x_Hp} (hlv : lv < 2) (hN6 : N ≤ 6) (h18 : κ.1 0 18 = nI lv) (h10 : κ.1 10 lv = nI N) {c : Nat → Int32} (hc : ∀ a, a < N → κ.1 35 a = c a) : ∀ (k f i b : Nat), i + k = N → b < N → k < f → F_X9_luckiest_4 f (nI b) (nI i) κ = some (nI (m_luk c k i b), κ) := by
  intro k
  induction k with
  | zero =>
    intro f i b h1 hb h2
    obtain ⟨f, rfl⟩ : ∃ m, f = m + 1 := ⟨f - 1, by omega⟩
    rw [F_X9_luckiest_4, h18, x_gd_t (x_inb_nI hlv (by decide)), x_ix_nI (by omega), h10, if_pos (nI_le (by omega) (by omega)), m_luk]
  | succ k ih =>
    intro f i b h1 hb h2
    obtain ⟨f, rfl⟩ : ∃ m, f = m + 1 := ⟨f - 1, by omega⟩
    rw [F_X9_luckiest_4, h18, x_gd_t (x_inb_nI hlv (by decide)), x_ix_nI (by omega), h10, if_neg (nI_ge (by omega) (by omega)), x_gd_t (x_inb_nI (by omega) (by decide)), x_gd_t (x_inb_nI (by omega) (by decide)), x_ix_nI (by omega), x_ix_nI (by omega), hc b hb, hc i (by omega), m_luk]
    split
    · rw [F_X9_luckiest_34, nI_1]; exact ih f (i + 1) b (by omega) hb (by omega)
    · rw [F_X9_luckiest_34, nI_1]; exact ih f (i + 1) i (by omega) (by omega) (by omega)
theorem y_apart {κ : x_Hp} (hlv : lv < 2) (hN6 : N ≤ 6) (h18 : κ.1 0 18 = nI lv) (h10 : κ.1 10 lv = nI N) {L : Nat → Int32} (hL : ∀ a, a < N → κ.1 36 a = L a) : ∀ (k f i : Nat) (x y : Int32), i + k = N → k < f → F_X9_apartNow_11 f y x (nI i) κ = some (m_tp L k i x - m_lw L k i y, κ) := by
  intro k
  induction k with
  | zero =>
    intro f i x y h1 h2
    obtain ⟨f, rfl⟩ : ∃ m, f = m + 1 := ⟨f - 1, by omega⟩
    rw [F_X9_apartNow_11, h18, x_gd_t (x_inb_nI hlv (by decide)), x_ix_nI (by omega), h10, if_pos (nI_le (by omega) (by omega)), m_tp, m_lw]
  | succ k ih =>
    intro f i x y h1 h2
    obtain ⟨f, rfl⟩ : ∃ m, f = m + 1 := ⟨f - 1, by omega⟩
    have hi : x_inb (nI i) 6 = true := x_inb_nI (by omega) (by decide)
    have k41 : ∀ y', F_X9_apartNow_41 (F_X9_apartNow_11 f) y' x (nI i) κ = some (m_tp L k (i + 1) (if L i ≤ x then x else L i) - m_lw L k (i + 1) y', κ) := by
      intro y'
      rw [F_X9_apartNow_41, x_gd_t hi, x_gd_t hi, x_ix_nI (by omega), hL i (by omega)]
      split
      · rw [F_X9_apartNow_58, nI_1]; exact ih f (i + 1) _ _ (by omega) (by omega)
      · rw [F_X9_apartNow_58, nI_1]; exact ih f (i + 1) _ _ (by omega) (by omega)
    rw [F_X9_apartNow_11, h18, x_gd_t (x_inb_nI hlv (by decide)), x_ix_nI (by omega), h10, if_neg (nI_ge (by omega) (by omega)), x_gd_t hi, x_gd_t hi, x_ix_nI (by omega), hL i (by omega), k41, k41, m_tp, m_lw]
    split <;> rfl
theorem luk_1 (c : Nat → Int32) {N : Nat} (h : 0 < N) : m_luk c N 0 0 = m_luk c (N - 1) 1 0 := by
  obtain ⟨M, rfl⟩ : ∃ M, N = M + 1 := ⟨N - 1, by omega⟩
  rw [m_luk, ite_self]; rfl
theorem tp_1 (L : Nat → Int32) {N : Nat} (h : 0 < N) : m_tp L N 0 (L 0) = m_tp L (N - 1) 1 (L 0) ∧ m_lw L N 0 (L 0) = m_lw L (N - 1) 1 (L 0) := by
  obtain ⟨M, rfl⟩ : ∃ M, N = M + 1 := ⟨N - 1, by omega⟩
  rw [m_tp, m_lw, ite_self]; exact ⟨rfl, rfl⟩
def y_ch (a b : Nat) : Prop := (a = 0 ∧ (b = 61 ∨ b = 63 ∨ b = 65 ∨ b = 66)) ∨ a = 38 ∨ a = 39
/-- the reference weighs an order -/
theorem y_weigh {κ : x_Hp} (hN0 : 0 < N) (hT : y_Tx κ T lv N) (hB : m_TB T N) (hg : n_good N l = true) (h37 : ∀ k, k < 6 → κ.1 37 k = nI (n_at l k)) (h57 : κ.1 0 57 = m_slp T m v l N) (h56 : κ.1 0 56 = m_sm (m_sh T N m v l 1) N 0 0) (h35 : ∀ a, a < N → κ.1 35 a = m_sh T N m v l 1 a ∧ κ.1 36 a = m_sh T N m v l 2 a) (K : Int32 → Int32 → x_Hp → Option (Unit × x_Hp)) (x1 : Int32) : ∃ κ', (if (κ.1 0 61) < 0 then F_X9_fillsOrders_69 K x1 κ else if (κ.1 0 61) ≤ (κ.1 0 56) then F_X9_fillsOrders_103 K x1 κ else F_X9_fillsOrders_69 K x1 κ) = F_X9_fillsOrders_189 K x1 κ' ∧ (∀ a b, ¬ y_ch a b → κ'.1 a b = κ.1 a b) ∧ κ'.1 0 63 = κ.1 0 63 + m_sit T (m_slp T m v l N) ∧ (∀ k, κ'.1 39 k = if k = m_luk (m_sh T N m v l 1) N 0 0 then κ.1 39 k + 1 else κ.1 39 k) ∧
    (if κ.1 0 65 < 0 ∨ ¬ κ.1 0 65 ≤ m_tp (m_sh T N m v l 2) N 0 (m_sh T N m v l 2 0) - m_lw (m_sh T N m v l 2) N 0 (m_sh T N m v l 2 0) then κ'.1 0 66 = nI (n_at l 0) ∧ κ'.1 0 65 = m_tp (m_sh T N m v l 2) N 0 (m_sh T N m v l 2 0) - m_lw (m_sh T N m v l 2) N 0 (m_sh T N m v l 2 0) else κ'.1 0 66 = κ.1 0 66 ∧ κ'.1 0 65 = κ.1 0 65) ∧
    (if κ.1 0 61 < 0 ∨ ¬ κ.1 0 61 ≤ m_sm (m_sh T N m v l 1) N 0 0 then κ'.1 0 61 = m_sm (m_sh T N m v l 1) N 0 0 ∧ (∀ k, k < 6 → κ'.1 38 k = κ.1 37 k) else κ'.1 0 61 = κ.1 0 61 ∧ ∀ k, κ'.1 38 k = κ.1 38 k) := by
  obtain ⟨hlv, hN6, h18, h7, h10, h6, -⟩ := id hT
  have hlk := m_luk_in (m_sh T N m v l 1) N 0 0 (by omega) hN0
  have ht1 := tp_1 (m_sh T N m v l 2) hN0
  have hl1 := luk_1 (m_sh T N m v l 1) hN0
  have hslp := slp_in (T := T) (m := m) (v := v) hg hN6 N (Nat.le_refl _)
  generalize hsl : m_slp T m v l N = sl at *
  generalize hs : m_sm (m_sh T N m v l 1) N 0 0 = s at *
  -- from 171 on: put down how far apart
  have e189 : ∀ ρ : x_Hp, ρ.1 0 18 = nI lv → ρ.1 10 lv = nI N → (∀ a, a < N → ρ.1 36 a = m_sh T N m v l 2 a) → F_X9_apartNow ρ = some (m_tp (m_sh T N m v l 2) N 0 (m_sh T N m v l 2 0) - m_lw (m_sh T N m v l 2) N 0 (m_sh T N m v l 2 0), ρ) := by
    intro ρ q18 q10 q36
    rw [F_X9_apartNow, q36 0 hN0, ht1.1, ht1.2]
    exact y_apart hlv hN6 q18 q10 q36 (N - 1) x_fuel 1 _ _ (by omega) (by rw [x_fuel]; omega)
  generalize m_tp (m_sh T N m v l 2) N 0 (m_sh T N m v l 2 0) - m_lw (m_sh T N m v l 2) N 0 (m_sh T N m v l 2 0) = ap at *
  have from140 : ∀ ρ : x_Hp, (∀ a b, ¬ y_ch a b → ρ.1 a b = κ.1 a b) → (∀ k, ρ.1 39 k = κ.1 39 k) → ρ.1 0 65 = κ.1 0 65 → ρ.1 0 66 = κ.1 0 66 → ∃ κ', F_X9_fillsOrders_140 K x1 ρ = F_X9_fillsOrders_189 K x1 κ' ∧ (∀ a b, ¬ y_ch a b → κ'.1 a b = κ.1 a b) ∧ κ'.1 0 63 = ρ.1 0 63 ∧ κ'.1 0 61 = ρ.1 0 61 ∧ (∀ k, κ'.1 38 k = ρ.1 38 k) ∧ (∀ k, κ'.1 39 k = if k = m_luk (m_sh T N m v l 1) N 0 0 then κ.1 39 k + 1 else κ.1 39 k) ∧ (if κ.1 0 65 < 0 ∨ ¬ κ.1 0 65 ≤ ap then κ'.1 0 66 = nI (n_at l 0) ∧ κ'.1 0 65 = ap else κ'.1 0 66 = κ.1 0 66 ∧ κ'.1 0 65 = κ.1 0 65) := by
    intro ρ hρ r39 r65 r66
    have q18 : ρ.1 0 18 = nI lv := by rw [hρ 0 18 (by unfold y_ch; omega)]; exact h18
    have q10 : ρ.1 10 lv = nI N := by rw [hρ 10 lv (by unfold y_ch; omega)]; exact h10
    have q35 : ∀ a, a < N → ρ.1 35 a = m_sh T N m v l 1 a := fun a ha => by rw [hρ 35 a (by unfold y_ch; omega)]; exact (h35 a ha).1
    have q36 : ∀ a, a < N → ρ.1 36 a = m_sh T N m v l 2 a := fun a ha => by rw [hρ 36 a (by unfold y_ch; omega)]; exact (h35 a ha).2
    have el : F_X9_luckiest ρ = some (nI (m_luk (m_sh T N m v l 1) N 0 0), ρ) := by
      rw [F_X9_luckiest, hl1]
      exact y_luck hlv hN6 q18 q10 q35 (N - 1) x_fuel 1 0 (by omega) hN0 (by rw [x_fuel]; omega)
    generalize m_luk (m_sh T N m v l 1) N 0 0 = b at hlk el ⊢
    rw [F_X9_fillsOrders_140, el, x_b_s, x_gd_t (x_inb_nI (by omega) (by decide)), x_gd_t (x_inb_nI (by omega) (by decide)), x_pt_s, x_ix_nI (by omega)]
    have o1 : ∀ i j, i ≠ 39 → (x_pI ρ 39 b (ρ.1 39 b + 1)).1 i j = ρ.1 i j := fun i j h => by rw [x_pI_1, if_neg (by omega)]
    have o39 : ∀ k, (x_pI ρ 39 b (ρ.1 39 b + 1)).1 39 k = if k = b then κ.1 39 k + 1 else κ.1 39 k := by
      intro k
      rw [x_pI_1]
      by_cases q : k = b
      · subst q; rw [if_pos ⟨rfl, rfl⟩, if_pos rfl, r39]
      · rw [if_neg (by omega), if_neg q, r39]
    generalize x_pI ρ 39 b (ρ.1 39 b + 1) = ρ1 at o1 o39 ⊢
    have a1 := e189 ρ1 (by rw [o1 _ _ (by decide)]; exact q18) (by rw [o1 _ _ (by decide)]; exact q10) (fun a ha => by rw [o1 _ _ (by decide)]; exact q36 a ha)
    have k171 : F_X9_fillsOrders_171 K x1 ρ1 = F_X9_fillsOrders_189 K x1 (x_pI (x_pI ρ1 0 65 ap) 0 66 (nI (n_at l 0))) := by
      rw [F_X9_fillsOrders_171, a1, x_b_s, x_pt_s, x_pt_s, show (x_pI ρ1 0 65 ap).1 37 0 = nI (n_at l 0) by rw [x_pI_1, if_neg (by omega), o1 _ _ (by decide), hρ 37 0 (by unfold y_ch; omega), h37 0 (by decide)]]
    have o2 : ∀ i j, ¬ (i = 0 ∧ (j = 65 ∨ j = 66)) → (x_pI (x_pI ρ1 0 65 ap) 0 66 (nI (n_at l 0))).1 i j = ρ1.1 i j := fun i j h => by rw [x_pI_1, if_neg (by omega), x_pI_1, if_neg (by omega)]
    have fin171 : (κ.1 0 65 < 0 ∨ ¬ κ.1 0 65 ≤ ap) → ∃ κ', F_X9_fillsOrders_171 K x1 ρ1 = F_X9_fillsOrders_189 K x1 κ' ∧ (∀ a b, ¬ y_ch a b → κ'.1 a b = κ.1 a b) ∧ κ'.1 0 63 = ρ.1 0 63 ∧ κ'.1 0 61 = ρ.1 0 61 ∧ (∀ k, κ'.1 38 k = ρ.1 38 k) ∧ (∀ k, κ'.1 39 k = if k = b then κ.1 39 k + 1 else κ.1 39 k) ∧ (if κ.1 0 65 < 0 ∨ ¬ κ.1 0 65 ≤ ap then κ'.1 0 66 = nI (n_at l 0) ∧ κ'.1 0 65 = ap else κ'.1 0 66 = κ.1 0 66 ∧ κ'.1 0 65 = κ.1 0 65) := by
      intro q
      refine ⟨_, k171, fun i j h => ?_, ?_, ?_, fun k => ?_, fun k => ?_, ?_⟩
      · rw [o2 i j (by unfold y_ch at h; omega), o1 i j (by unfold y_ch at h; omega), hρ i j h]
      · rw [o2 _ _ (by omega), o1 _ _ (by decide)]
      · rw [o2 _ _ (by omega), o1 _ _ (by decide)]
      · rw [o2 _ _ (by omega), o1 _ _ (by decide)]
      · rw [o2 _ _ (by omega), o39]
      · rw [if_pos q]
        exact ⟨by rw [x_pI_1, if_pos ⟨rfl, rfl⟩], by rw [x_pI_1, if_neg (by omega), x_pI_1, if_pos ⟨rfl, rfl⟩]⟩
    rw [o1 0 65 (by decide), r65]
    by_cases q : κ.1 0 65 < 0
    · rw [if_pos q]; exact fin171 (Or.inl q)
    · rw [if_neg q, a1, x_b_s, o1 0 65 (by decide), r65]
      by_cases q2 : κ.1 0 65 ≤ ap
      · rw [if_pos q2]
        refine ⟨ρ1, rfl, fun i j h => ?_, o1 _ _ (by decide), o1 _ _ (by decide), fun k => o1 _ _ (by decide), o39, ?_⟩
        · rw [o1 i j (by unfold y_ch at h; omega), hρ i j h]
        · rw [if_neg (by rintro (z | z); exact q z; exact z q2)]
          exact ⟨by rw [o1 _ _ (by decide), r66], by rw [o1 _ _ (by decide), r65]⟩
      · rw [if_neg q2]; exact fin171 (Or.inr q2)
  have from103 : ∀ ρ : x_Hp, (∀ a b, ¬ y_ch a b → ρ.1 a b = κ.1 a b) → (∀ k, ρ.1 39 k = κ.1 39 k) → ρ.1 0 65 = κ.1 0 65 → ρ.1 0 66 = κ.1 0 66 → ρ.1 0 63 = κ.1 0 63 → ∃ κ', F_X9_fillsOrders_103 K x1 ρ = F_X9_fillsOrders_189 K x1 κ' ∧ (∀ a b, ¬ y_ch a b → κ'.1 a b = κ.1 a b) ∧ κ'.1 0 63 = κ.1 0 63 + m_sit T sl ∧ κ'.1 0 61 = ρ.1 0 61 ∧ (∀ k, κ'.1 38 k = ρ.1 38 k) ∧ (∀ k, κ'.1 39 k = if k = m_luk (m_sh T N m v l 1) N 0 0 then κ.1 39 k + 1 else κ.1 39 k) ∧ (if κ.1 0 65 < 0 ∨ ¬ κ.1 0 65 ≤ ap then κ'.1 0 66 = nI (n_at l 0) ∧ κ'.1 0 65 = ap else κ'.1 0 66 = κ.1 0 66 ∧ κ'.1 0 65 = κ.1 0 65) := by
    intro ρ hρ r39 r65 r66 r63
    have q57 : ρ.1 0 57 = sl := by rw [hρ 0 57 (by unfold y_ch; omega)]; exact h57
    have q18 : ρ.1 0 18 = nI lv := by rw [hρ 0 18 (by unfold y_ch; omega)]; exact h18
    rw [F_X9_fillsOrders_103, q57]
    rcases hslp with q | ⟨a, ha, q⟩
    · have z : m_sit T sl = 0 := by rw [q]; rfl
      rw [z, Int32.add_zero, q, if_pos (show (-2 : Int32) < 0 by decide)]
      obtain ⟨κ', a1, a2, a3, a4, a5, a6, a7⟩ := from140 ρ hρ r39 r65 r66
      exact ⟨κ', a1, a2, by rw [a3, r63], a4, a5, a6, a7⟩
    · have ix : (6 : Int32) * nI lv + nI a = nI (6 * lv + a) := by rw [show (6 : Int32) * nI lv = nI (6 * lv) from pk_mul 6 lv, nI_add]
      have z : m_sit T sl = T.1 7 a := by rw [q, m_sit, m_atT, if_pos (x_inb_nI (by omega) (by decide)), x_ix_nI (by omega)]
      have r15 : ρ.1 15 (6 * lv + a) = T.1 7 a := by rw [hρ 15 _ (by unfold y_ch; omega)]; exact (h6 a ha).2.2.2.2
      rw [z, q, if_neg (nI_pos (by omega)), q18, ix, x_gd_t (x_inb_nI (by omega) (by decide)), x_ix_nI (by omega), r15]
      rcases hB.2.2.2 a ha with e | e
      · rw [e, if_pos rfl, Int32.add_zero]
        obtain ⟨κ', a1, a2, a3, a4, a5, a6, a7⟩ := from140 ρ hρ r39 r65 r66
        exact ⟨κ', a1, a2, by rw [a3, r63], a4, a5, a6, a7⟩
      · rw [e, if_neg (by decide), x_pt_s]
        have p1 : ∀ i j, ¬ (i = 0 ∧ j = 63) → (x_pI ρ 0 63 (ρ.1 0 63 + 1)).1 i j = ρ.1 i j := fun i j h => by rw [x_pI_1, if_neg h]
        obtain ⟨κ', a1, a2, a3, a4, a5, a6, a7⟩ := from140 (x_pI ρ 0 63 (ρ.1 0 63 + 1)) (fun i j h => by rw [p1 i j (by unfold y_ch at h; omega)]; exact hρ i j h) (fun k => by rw [p1 _ _ (by omega), r39]) (by rw [p1 _ _ (by omega), r65]) (by rw [p1 _ _ (by omega), r66])
        exact ⟨κ', a1, a2, by rw [a3, x_pI_1, if_pos ⟨rfl, rfl⟩, r63], by rw [a4, p1 _ _ (by omega)], fun k => by rw [a5, p1 _ _ (by omega)], a6, a7⟩
  -- the least CRY
  have from69 : ∃ ρ : x_Hp, F_X9_fillsOrders_69 K x1 κ = F_X9_fillsOrders_103 K x1 ρ ∧ (∀ a b, ¬ (a = 38 ∨ (a = 0 ∧ b = 61)) → ρ.1 a b = κ.1 a b) ∧ ρ.1 0 61 = s ∧ ∀ k, k < 6 → ρ.1 38 k = κ.1 37 k := by
    have p61 : ∀ i j, ¬ (i = 0 ∧ j = 61) → (x_pI κ 0 61 s).1 i j = κ.1 i j := fun i j h => by rw [x_pI_1, if_neg h]
    obtain ⟨n, e⟩ := y_fill0 (F := fun n i μ => F_X9_fillsOrders_79 K n x1 i μ) (r := 38) (b := 0) (L := 6) (by decide) (f := κ.1 37) (P := fun _ μ => ∀ k, μ.1 37 k = κ.1 37 k) (fun i σ hi hp k => by rw [x_pI_1, if_neg (by omega)]; exact hp k) (fun n i σ hi hp => by
      have hii : x_inb (nI i) 6 = true := x_inb_nI hi (by decide)
      rw [F_X9_fillsOrders_79, if_neg (show ¬ (6 : Int32) ≤ nI i from nI_ge (b := 6) hi (by decide)), x_gd_t hii, x_gd_t hii, x_pt_s, x_ix_nI (by omega), hp i, nI_1, Nat.zero_add]) (σ := x_pI κ 0 61 s) (fun k => p61 37 k (by omega))
    refine ⟨y_fl (x_pI κ 0 61 s) 38 0 6 (κ.1 37) 0, ?_, fun i j h => ?_, ?_, fun k hk => ?_⟩
    · rw [F_X9_fillsOrders_69, x_pt_s, h56, e, F_X9_fillsOrders_79, if_pos (show (6 : Int32) ≤ nI 6 by decide)]
    · rw [y_fl_o _ _ _ _ _ (by omega), p61 i j (by omega)]
    · rw [y_fl_o _ _ _ _ _ (by omega), x_pI_1, if_pos ⟨rfl, rfl⟩]
    · have := y_fl_in (x_pI κ 0 61 s) 38 0 6 (κ.1 37) hk
      rw [Nat.zero_add] at this; exact this
  have yes : (κ.1 0 61 < 0 ∨ ¬ κ.1 0 61 ≤ s) → ∃ κ', F_X9_fillsOrders_69 K x1 κ = F_X9_fillsOrders_189 K x1 κ' ∧ (∀ a b, ¬ y_ch a b → κ'.1 a b = κ.1 a b) ∧ κ'.1 0 63 = κ.1 0 63 + m_sit T sl ∧ (∀ k, κ'.1 39 k = if k = m_luk (m_sh T N m v l 1) N 0 0 then κ.1 39 k + 1 else κ.1 39 k) ∧ (if κ.1 0 65 < 0 ∨ ¬ κ.1 0 65 ≤ ap then κ'.1 0 66 = nI (n_at l 0) ∧ κ'.1 0 65 = ap else κ'.1 0 66 = κ.1 0 66 ∧ κ'.1 0 65 = κ.1 0 65) ∧ (if κ.1 0 61 < 0 ∨ ¬ κ.1 0 61 ≤ s then κ'.1 0 61 = s ∧ (∀ k, k < 6 → κ'.1 38 k = κ.1 37 k) else κ'.1 0 61 = κ.1 0 61 ∧ ∀ k, κ'.1 38 k = κ.1 38 k) := by
    intro q
    obtain ⟨ρ, e, g1, g2, g3⟩ := from69
    obtain ⟨κ', a1, a2, a3, a4, a5, a6, a7⟩ := from103 ρ (fun i j h => g1 i j (by unfold y_ch at h; omega)) (fun k => g1 _ _ (by omega)) (g1 _ _ (by omega)) (g1 _ _ (by omega)) (g1 _ _ (by omega))
    exact ⟨κ', by rw [e, a1], a2, a3, a6, a7, by rw [if_pos q]; exact ⟨by rw [a4, g2], fun k hk => by rw [a5, g3 k hk]⟩⟩
  rw [h56]
  by_cases q : κ.1 0 61 < 0
  · rw [if_pos q]; exact yes (Or.inl q)
  · rw [if_neg q]
    by_cases q2 : κ.1 0 61 ≤ s
    · rw [if_pos q2]
      obtain ⟨κ', a1, a2, a3, a4, a5, a6, a7⟩ := from103 κ (fun _ _ _ => rfl) (fun _ => rfl) rfl rfl rfl
      exact ⟨κ', a1, a2, a3, a6, a7, by rw [if_neg (by rintro (z | z); exact q z; exact z q2)]; exact ⟨a4, a5⟩⟩
    · rw [if_neg q2]; exact yes (Or.inr q2)
end V1
