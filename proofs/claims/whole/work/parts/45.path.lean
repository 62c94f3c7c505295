/-! ONE ORDER GONE THROUGH -/
def m_pre (T : x_TT) (m : Nat) (v : x_V) (l : List Nat) : Nat → x_V
  | 0 => v
  | d + 1 => m_keep T (m_pre T m v l d) (nI (n_at l d)) m
def m_slp (T : x_TT) (m : Nat) (v : x_V) (l : List Nat) : Nat → Int32
  | 0 => -2
  | d + 1 => if m_slp T m v l d = -2 then (if m_ks T (m_pre T m v l d) (n_at l d) m = true then nI (n_at l d) else -2) else m_slp T m v l d
theorem m_kp_f (T : x_TT) : ∀ (K : Nat) (v : x_V) (l : Int32), ∃ c, c ≤ K ∧ m_kp T K v l 17 = v 17 + nI c ∧ (v 13 ≤ 0 → (m_kq T K v l = true ↔ 0 < c)) := by
  intro K
  induction K with
  | zero => intro v l; exact ⟨0, by omega, by rw [show nI 0 = (0 : Int32) from rfl, Int32.add_zero]; rfl, fun _ => by rw [m_kq]; simp⟩
  | succ K ih =>
    intro v l
    rw [m_kp, m_kq]
    by_cases hc : 0 < l ∨ ¬ v 13 ≤ 0
    · rw [if_pos hc, if_pos hc]
      obtain ⟨c, h1, h2, h3⟩ := ih (m_step T v) (if v 13 = 0 then l - 1 else l)
      by_cases h0 : v 13 ≤ 0
      · rcases (m_step_f T v).1 h0 with ⟨q13, q17⟩ | ⟨q13, q17⟩
        · refine ⟨1 + c, by omega, by rw [h2, q17, Int32.add_assoc, show (1 : Int32) = nI 1 from rfl, nI_add], fun _ => ?_⟩
          have : ¬ m_step T v 13 ≤ 0 := by rw [q13]; decide
          simp [this]; omega
        · refine ⟨c, by omega, by rw [h2, q17], fun _ => ?_⟩
          have : m_step T v 13 ≤ 0 := by rw [q13]; exact h0
          rw [← h3 this]
          simp [this]
      · exact ⟨c, by omega, by rw [h2, (m_step_f T v).2 h0], fun q => absurd q h0⟩
    · rw [if_neg hc, if_neg hc]
      exact ⟨0, by omega, by rw [show nI 0 = (0 : Int32) from rfl, Int32.add_zero], fun _ => by simp⟩
theorem m_to_17 (T : x_TT) (v : x_V) (a : Int32) : m_to T v a 17 = v 17 := by
  rw [m_to]; split
  · rfl
  · rw [m_over_k T v _ (by decide)]
theorem m_keep_f (T : x_TT) (v : x_V) (a m : Nat) (h13 : v 13 ≤ 0) : ∃ c, c ≤ m * 61 ∧ m_keep T v (nI a) m 17 = v 17 + nI c ∧ (m_ks T v a m = true ↔ 0 < c) := by
  obtain ⟨c, h1, h2, h3⟩ := m_kp_f T (m * 61) (m_to T v (nI a)) (nI m)
  refine ⟨c, h1, ?_, h3 (by rw [m_to_13]; exact h13)⟩
  rw [m_keep_to, h2, m_to_17]
/-- a laugh more, or none -/
theorem m_step_l {T : x_TT} {v : x_V} {w : Nat} (h9 : v 9 = nI w) (h6 : w < 6) : ∃ c, c ≤ 1 ∧ m_step T v (20 + (7 * w + 2)) = v (20 + (7 * w + 2)) + nI c := by
  have tm : ∀ (u : x_V) (q : Nat) (x : Int32), u 9 = nI w → q < 7 → q ≠ 2 → m_tm u (nI q) x (20 + (7 * w + 2)) = u (20 + (7 * w + 2)) := fun u q x h hq h2 => by
    rw [m_tm_nI u h h6 hq, x_un _ _ (by omega)]
  have zero : ∃ c, c ≤ 1 ∧ v (20 + (7 * w + 2)) = v (20 + (7 * w + 2)) + nI c := ⟨0, by omega, by rw [show nI 0 = (0 : Int32) from rfl, Int32.add_zero]⟩
  rw [m_step, x_un _ _ (by omega), m_mn]
  split
  · exact zero
  · split
    · rw [m_awake]
      have w9 : m_w2 T (m_w1 T v) 9 = nI w := by rw [m_w2_k T _ (by decide), m_w1_k T _ (by decide)]; exact h9
      have a2 : m_w2 T (m_w1 T v) (20 + (7 * w + 2)) = v (20 + (7 * w + 2)) := by rw [m_w2_k T _ (by omega), m_w1_k T _ (by omega)]
      have a3 : m_w3 (m_w2 T (m_w1 T v)) (20 + (7 * w + 2)) = v (20 + (7 * w + 2)) := by
        rw [m_w3]
        have t1 := tm (m_tm (m_w2 T (m_w1 T v)) 0 1) 1 (m_tm (m_w2 T (m_w1 T v)) 0 1 12) (by rw [m_tm_lt _ _ _ (by decide)]; exact w9) (by decide) (by decide)
        have t0 := tm (m_w2 T (m_w1 T v)) 0 1 w9 (by decide) (by decide)
        rw [show nI 1 = (1 : Int32) from rfl] at t1
        rw [show nI 0 = (0 : Int32) from rfl] at t0
        rw [t1, t0, a2]
      have u9 : m_w3 (m_w2 T (m_w1 T v)) 9 = nI w := by rw [m_w3_k _ (by decide)]; exact w9
      generalize m_w3 (m_w2 T (m_w1 T v)) = u at a3 u9 ⊢
      have a4 : ∃ c, c ≤ 1 ∧ m_w4 u (20 + (7 * w + 2)) = v (20 + (7 * w + 2)) + nI c := by
        rw [m_w4]
        split
        · split
          · rw [a3]; exact zero
          · have := m_tm_nI u u9 h6 (q := 2) (by decide) 1
            rw [show nI 2 = (2 : Int32) from rfl] at this
            rw [this, x_ub, a3]
            exact ⟨1, by omega, rfl⟩
        · rw [a3]; exact zero
      have u49 : m_w4 u 9 = nI w := by rw [m_w4_k _ (by decide)]; exact u9
      generalize m_w4 u = u2 at a4 u49 ⊢
      have sp9 : m_sp1 u2 9 = nI w := by rw [m_sp1_k _ (by decide) (by decide)]; exact u49
      have asp : m_sp1 u2 (20 + (7 * w + 2)) = u2 (20 + (7 * w + 2)) := by
        rw [m_sp1]
        have := tm (x_u u2 3 0) 6 1 (by rw [x_un _ _ (by decide)]; exact u49) (by decide) (by decide)
        rw [show nI 6 = (6 : Int32) from rfl] at this
        rw [this, x_un _ _ (by omega)]
      have a5 : m_w5 T u2 (20 + (7 * w + 2)) = u2 (20 + (7 * w + 2)) := by
        rw [m_w5]
        split
        · rfl
        · rw [m_spit]
          split
          · have := tm (m_sp1 u2) 4 (if x_inb (m_sp1 u2 9) 6 = true then T.1 6 (x_ix (m_sp1 u2 9)) else 0) sp9 (by decide) (by decide)
            rw [show nI 4 = (4 : Int32) from rfl] at this
            rw [this, asp]
          · exact asp
      rw [m_w6_k T _ (by omega), a5]
      exact a4
    · have b2 : m_sl2 (m_sl1 T v) (20 + (7 * w + 2)) = v (20 + (7 * w + 2)) := by
        rw [m_sl2, x_un _ _ (by omega), m_sl1, x_un _ _ (by omega)]
        have := tm (x_u v 0 (x_wi (v 0 + m_tells T 0 v) 0 99)) 3 1 (by rw [x_un _ _ (by decide)]; exact h9) (by decide) (by decide)
        rw [show nI 3 = (3 : Int32) from rfl] at this
        rw [this, x_un _ _ (by omega)]
      rw [m_asleep]
      split
      · rw [x_un _ _ (by omega), x_un _ _ (by omega), b2]; exact zero
      · rw [b2]; exact zero
theorem m_kp_l {T : x_TT} {w : Nat} (h6 : w < 6) : ∀ (K : Nat) (v : x_V) (l : Int32), v 9 = nI w → ∃ c, c ≤ K ∧ m_kp T K v l (20 + (7 * w + 2)) = v (20 + (7 * w + 2)) + nI c := by
  intro K
  induction K with
  | zero => intro v l _; exact ⟨0, by omega, by rw [show nI 0 = (0 : Int32) from rfl, Int32.add_zero]; rfl⟩
  | succ K ih =>
    intro v l h9
    rw [m_kp]
    split
    · obtain ⟨c, h1, h2⟩ := m_step_l (T := T) h9 h6
      obtain ⟨d, h3, h4⟩ := ih (m_step T v) (if v 13 = 0 then l - 1 else l) (by rw [m_step_k T v (by unfold m_fix; omega)]; exact h9)
      exact ⟨c + d, by omega, by rw [h4, h2, Int32.add_assoc, nI_add]⟩
    · exact ⟨0, by omega, by rw [show nI 0 = (0 : Int32) from rfl, Int32.add_zero]⟩
theorem m_keep_l (T : x_TT) (v : x_V) {a : Nat} (ha : a < 6) (m : Nat) : ∃ c, c ≤ m * 61 ∧ m_kc T v a m 2 = nI c := by
  obtain ⟨c, h1, h2⟩ := m_kp_l (T := T) ha (m * 61) (m_to T v (nI a)) (nI m) (m_to_9 _)
  refine ⟨c, h1, ?_⟩
  have e1 := m_tal_nI (m_keep T v (nI a) m) ha (w := 2) (by decide)
  have e2 := m_tal_nI v ha (w := 2) (by decide)
  rw [show nI 2 = (2 : Int32) from rfl] at e1 e2
  rw [m_kc, e1, e2, m_keep_to, h2, m_to_lo _ (by omega), x_sub_l]
section P1
variable {T : x_TT} {lv N t m : Nat} {v : x_V} {l : List Nat}
theorem pre_un (hg : n_good N l = true) (hN : N ≤ 6) {q : Nat} (hq : q < 7) {k : Nat} (hk : k < N) : ∀ i, i ≤ k → m_tal (m_pre T m v l i) (nI (n_at l k)) (nI q) = m_tal v (nI (n_at l k)) (nI q) := by
  intro i
  induction i with
  | zero => intro _; rfl
  | succ i ih =>
    intro hi
    rw [m_pre, m_keep_tal (n_good_6 hg (by omega)) (n_good_6 hg (by omega)) (n_good_ne hg hN hk (by omega) (by omega)) hq, ih (by omega)]
theorem pre_af (hg : n_good N l = true) (hN : N ≤ 6) {q : Nat} (hq : q < 7) {k : Nat} (hk : k < N) : ∀ d, k + 1 + d ≤ N → m_tal (m_pre T m v l (k + 1 + d)) (nI (n_at l k)) (nI q) = m_tal (m_pre T m v l (k + 1)) (nI (n_at l k)) (nI q) := by
  intro d
  induction d with
  | zero => intro _; rfl
  | succ d ih =>
    intro hd
    rw [show k + 1 + (d + 1) = (k + 1 + d) + 1 by omega, m_pre, m_keep_tal (n_good_6 hg (by omega)) (n_good_6 hg (by omega)) (n_good_ne hg hN hk (by omega) (by omega)) hq, ih (by omega)]
theorem pre_hi (hg : n_good N l = true) (hN : N ≤ 6) {q : Nat} (hq : q < 7) {b : Nat} (hb : N ≤ b) (h6 : b < 6) : ∀ i, i ≤ N → m_tal (m_pre T m v l i) (nI b) (nI q) = m_tal v (nI b) (nI q) := by
  intro i
  induction i with
  | zero => intro _; rfl
  | succ i ih =>
    intro hi
    have := (n_good_N hg hN (k := i) (by omega)).1
    rw [m_pre, m_keep_tal (n_good_6 hg (by omega)) h6 (by omega) hq, ih (by omega)]
/-- her share of it, all gone through -/
def m_sh (T : x_TT) (N m : Nat) (v : x_V) (l : List Nat) (q : Int32) (a : Nat) : Int32 := m_tal (m_pre T m v l N) (nI a) q - m_tal v (nI a) q
theorem sh_at (hg : n_good N l = true) (hN : N ≤ 6) {q : Nat} (hq : q < 7) {k : Nat} (hk : k < N) : m_sh T N m v l (nI q) (n_at l k) = m_kc T (m_pre T m v l k) (n_at l k) m (nI q) := by
  have e := pre_af (T := T) (m := m) (v := v) hg hN hq hk (N - (k + 1)) (by omega)
  rw [show k + 1 + (N - (k + 1)) = N by omega] at e
  rw [m_sh, m_kc, e, pre_un hg hN hq hk k (Nat.le_refl _)]; rfl
theorem sh_hi (hg : n_good N l = true) (hN : N ≤ 6) {q : Nat} (hq : q < 7) {b : Nat} (hb : N ≤ b) (h6 : b < 6) : m_sh T N m v l (nI q) b = 0 := by
  rw [m_sh, pre_hi hg hN hq hb h6 N (Nat.le_refl _), Int32.sub_self]
theorem sh_laugh (hg : n_good N l = true) (hN : N ≤ 6) {a : Nat} (ha : a < N) : ∃ x, x ≤ m * 61 ∧ m_sh T N m v l 2 a = nI x := by
  obtain ⟨k, hk, rfl⟩ := n_good_on hg hN ha
  obtain ⟨c, h1, h2⟩ := m_keep_l T (m_pre T m v l k) (a := n_at l k) (by omega) m
  have := sh_at (T := T) (m := m) (v := v) hg hN (q := 2) (by decide) hk
  rw [show nI 2 = (2 : Int32) from rfl] at this
  exact ⟨c, h1, by rw [this, h2]⟩
/-- how it stands on the way -/
theorem pre_ok {σ μ : x_Hp} (hV : r_V σ μ T lv N t v) (h0 : 0 < N) (h13 : v 13 = nI 0) (hg : n_good N l = true) (hm : m ≤ 10) : ∀ d, d ≤ N → y_G (y_s0 μ lv) T N (m_pre T m v l d) ∧ m_pre T m v l d 13 = nI 0 ∧ (∃ x, x ≤ t + 610 * d ∧ m_pre T m v l d 17 = nI x) ∧ ∃ s, s ≤ 60390 * d ∧ m_all (m_pre T m v l d) 1 = m_all v 1 + nI s := by
  obtain ⟨n1, n6, n7⟩ := hV.n
  intro d
  induction d with
  | zero =>
    intro _
    obtain ⟨x, hx, ex⟩ := hV.2.2.2.2.1.2.2.2
    exact ⟨s0_G hV h0, h13, ⟨x, by omega, ex⟩, 0, by omega, by rw [show nI 0 = (0 : Int32) from rfl, Int32.add_zero]; rfl⟩
  | succ d ih =>
    intro hd
    obtain ⟨g1, g2, ⟨x, hx, ex⟩, s, hs, es⟩ := ih (by omega)
    have ha := (n_good_N hg n6 (k := d) (by omega)).1
    obtain ⟨d2, -, k13, kG⟩ := y_give (s0_T hV) hV.2.2.1 (y_s0_51 μ lv) g1 g2 (y_sc μ) (a := n_at l d) (m := m) ha (by omega)
    obtain ⟨c, hc, ec, -⟩ := m_keep_f T (m_pre T m v l d) (n_at l d) m (by rw [g2]; decide)
    obtain ⟨-, s1, hs1, es1⟩ := m_keep_I n7 n6 hV.2.2.1 g1.1 ha m
    have hm61 : m * 61 ≤ 610 := by omega
    refine ⟨kG.agr (fun a b h1 h2 => (y_wr_agr _ _ _ _ _ a b h1 h2).symm), k13, ⟨x + c, by omega, ?_⟩, s + s1, by omega, ?_⟩
    · rw [m_pre, ec, ex, nI_add]
    · rw [m_pre, es1, es, Int32.add_assoc, nI_add]
theorem slp_in (hg : n_good N l = true) (hN : N ≤ 6) : ∀ d, d ≤ N → m_slp T m v l d = -2 ∨ ∃ a, a < N ∧ m_slp T m v l d = nI a := by
  intro d
  induction d with
  | zero => intro _; exact Or.inl rfl
  | succ d ih =>
    intro hd
    rw [m_slp]
    split
    · split
      · exact Or.inr ⟨n_at l d, (n_good_N hg hN (by omega)).1, rfl⟩
      · exact Or.inl rfl
    · exact ih (by omega)
/-- the reference gives it to all of them -/
theorem y_all {μ ν0 : x_Hp} (hB : m_TB T N) (hg : n_good N l = true) (hm : m ≤ 10) (h37 : ∀ k, k < 6 → ν0.1 37 k = nI (n_at l k)) : ∀ (d f i : Nat) (ν : x_Hp) (e : y_Sc), y_Tx ν T lv N → y_sm μ ν → ν.1 0 51 = -1 → y_G ν T N (m_pre T m v l i) → m_pre T m v l i 13 = nI 0 → i + d = N → d < f → ν.1 0 57 = m_slp T m v l i → ν.1 0 56 = m_all (m_pre T m v l i) 1 - m_all v 1 → (∀ k, k < i → ν.1 35 (n_at l k) = m_sh T N m v l 1 (n_at l k) ∧ ν.1 36 (n_at l k) = m_sh T N m v l 2 (n_at l k)) → (∀ a b, 37 ≤ a ∧ a ≤ 39 → ν.1 a b = ν0.1 a b) → (∀ b, 58 ≤ b → ν.1 0 b = ν0.1 0 b) → ∃ ν2 e2, F_X9_givesAll_6 f (nI m) (nI i) (z_hp ν (m_pre T m v l i) e) = some ((), z_hp ν2 (m_pre T m v l N) e2) ∧ y_Tx ν2 T lv N ∧ y_sm μ ν2 ∧ ν2.1 0 57 = m_slp T m v l N ∧ ν2.1 0 56 = m_all (m_pre T m v l N) 1 - m_all v 1 ∧ (∀ a, a < N → ν2.1 35 a = m_sh T N m v l 1 a ∧ ν2.1 36 a = m_sh T N m v l 2 a) ∧ (∀ a b, 37 ≤ a ∧ a ≤ 39 → ν2.1 a b = ν0.1 a b) ∧ (∀ b, 58 ≤ b → ν2.1 0 b = ν0.1 0 b) := by
  intro d
  induction d with
  | zero =>
    intro f i ν e hT sy h51 hG h13 h1 h2 h57 h56 h35 h379 h58
    obtain ⟨f, rfl⟩ : ∃ m, f = m + 1 := ⟨f - 1, by omega⟩
    have hi : i = N := by omega
    subst hi
    refine ⟨ν, e, ?_, hT, sy, h57, h56, ?_, h379, h58⟩
    · rw [F_X9_givesAll_6, z_0 _ _ _ (by decide), hT.2.2.1, x_gd_t (x_inb_nI hT.1 (by decide)), x_ix_nI (by have := hT.1; omega), z_lo _ _ _ (a := 10) _ (by decide) (by decide), hT.2.2.2.2.1, if_pos (nI_le (Nat.le_refl _) (by have := hT.2.1; omega))]
    · intro a ha
      obtain ⟨k, hk, rfl⟩ := n_good_on hg hT.2.1 ha
      exact h35 k hk
  | succ d ih =>
    intro f i ν e hT sy h51 hG h13 h1 h2 h57 h56 h35 h379 h58
    obtain ⟨f, rfl⟩ : ∃ m, f = m + 1 := ⟨f - 1, by omega⟩
    have hN := hT.2.1
    have ha := (n_good_N hg hN (k := i) (by omega)).1
    obtain ⟨d2, k, k13, kG⟩ := y_give hT hB h51 hG h13 e (a := n_at l i) (m := m) ha (by omega)
    have e37 : (z_hp ν (m_pre T m v l i) e).1 37 i = nI (n_at l i) := by
      rw [z_oth _ _ _ _ (by decide) (by decide) (by decide) (by decide) (Or.inl (by decide)), h379 37 i (by omega), h37 i (by omega)]
    rw [F_X9_givesAll_6, z_0 _ _ _ (by decide), hT.2.2.1, x_gd_t (x_inb_nI hT.1 (by decide)), x_ix_nI (by have := hT.1; omega), z_lo _ _ _ (a := 10) _ (by decide) (by decide), hT.2.2.2.2.1, if_neg (nI_ge (by omega) (by omega)), x_gd_t (x_inb_nI (by omega) (by decide)), x_ix_nI (by omega), e37, k, x_b_s, nI_1]
    refine ih f (i + 1) (y_g1 T ν (m_pre T m v l i) (n_at l i) m) d2 (hT.agr (y_wr_agr _ _ _ _ _)) (sy.tr (y_wr_sm _ _ _ _ _)) (by rw [y_g1, y_wr_o _ _ _ _ _ (by omega) (by omega) (by omega)]; exact h51) kG k13 (by omega) (by omega) ?_ ?_ ?_ (fun a b hab => by rw [y_g1, y_wr_o _ _ _ _ _ (by omega) (by omega) (by omega)]; exact h379 a b hab) (fun b hb => by rw [y_g1, y_wr_o _ _ _ _ _ (by omega) (by omega) (by omega)]; exact h58 b hb)
    · rw [y_g1, y_wr_57, y_sl, h57, m_slp]
      rcases slp_in (T := T) (m := m) (v := v) hg hN i (by omega) with q | ⟨a, ha6, q⟩
      · rw [q, if_pos rfl, if_neg (show ¬ (0 : Int32) ≤ -2 by decide)]
      · have h0 : (0 : Int32) ≤ nI a := nI_pos' (by omega)
        have hne : ¬ nI a = -2 := by intro z; rw [z] at h0; exact absurd h0 (by decide)
        rw [q, if_neg hne, if_pos h0]; split <;> rfl
    · rw [y_g1, y_wr_56, h56, m_kc, ← m_keep_all (by omega), m_pre]
      generalize m_all (m_keep T (m_pre T m v l i) (nI (n_at l i)) m) 1 = x
      generalize m_all (m_pre T m v l i) 1 = y
      generalize m_all v 1 = z
      rw [Int32.sub_eq_add_neg, Int32.sub_eq_add_neg, Int32.sub_eq_add_neg]
      have : y + -z + (x + -y) = x + -z + (y + -y) := by ac_rfl
      rw [this, Int32.add_right_neg, Int32.add_zero]
    · intro k' hk
      rw [y_g1, y_wr_35, y_wr_36]
      by_cases e : k' = i
      · subst e
        rw [if_pos rfl, if_pos rfl]
        have s1 := sh_at (T := T) (m := m) (v := v) hg hN (q := 1) (by decide) (k := k') (by omega)
        have s2 := sh_at (T := T) (m := m) (v := v) hg hN (q := 2) (by decide) (k := k') (by omega)
        exact ⟨s1.symm, s2.symm⟩
      · have := n_good_ne hg hN (i := k') (j := i) (by omega) (by omega) e
        rw [if_neg this, if_neg this]
        exact h35 k' (by omega)
end P1
