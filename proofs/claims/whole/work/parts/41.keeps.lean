/-! SHE KEEPS IT: whose tallies change -/
section K1
variable {T : x_TT} {N : Nat} {v : x_V}
theorem m_tm_o {w q : Nat} (h9 : v 9 = nI w) (h6 : w < 6) (hq : q < 7) (x : Int32) {j : Nat} (ho : j < 20 + 7 * w ∨ 27 + 7 * w ≤ j) : m_tm v (nI q) x j = v j := by
  rw [m_tm_nI v h9 h6 hq, x_un _ _ (by omega)]
theorem m_step_t {w : Nat} (h9 : v 9 = nI w) (h6 : w < 6) {j : Nat} (h20 : 20 ≤ j) (ho : j < 20 + 7 * w ∨ 27 + 7 * w ≤ j) : m_step T v j = v j := by
  have tm : ∀ (u : x_V) (q : Nat) (x : Int32), u 9 = nI w → q < 7 → m_tm u (nI q) x j = u j := fun u q x h hq => m_tm_o h h6 hq x ho
  rw [m_step, x_un _ _ (by omega), m_mn]
  split
  · rfl
  · split
    · rw [m_awake]
      have w9 : m_w2 T (m_w1 T v) 9 = nI w := by rw [m_w2_k T _ (by decide), m_w1_k T _ (by decide)]; exact h9
      have a2 : m_w2 T (m_w1 T v) j = v j := by rw [m_w2_k T _ (by omega), m_w1_k T _ (by omega)]
      have a3 : m_w3 (m_w2 T (m_w1 T v)) j = v j := by
        rw [m_w3]
        have t1 := tm (m_tm (m_w2 T (m_w1 T v)) 0 1) 1 (m_tm (m_w2 T (m_w1 T v)) 0 1 12) (by rw [m_tm_lt _ _ _ (by decide)]; exact w9) (by decide)
        have t0 := tm (m_w2 T (m_w1 T v)) 0 1 w9 (by decide)
        rw [show nI 1 = (1 : Int32) from rfl] at t1
        rw [show nI 0 = (0 : Int32) from rfl] at t0
        rw [t1, t0, a2]
      have u9 : m_w3 (m_w2 T (m_w1 T v)) 9 = nI w := by rw [m_w3_k _ (by decide)]; exact w9
      generalize m_w3 (m_w2 T (m_w1 T v)) = u at a3 u9 ⊢
      have a4 : m_w4 u j = v j := by
        rw [m_w4]
        split
        · split
          · exact a3
          · have := tm u 2 1 u9 (by decide)
            rw [show nI 2 = (2 : Int32) from rfl] at this
            rw [this, a3]
        · exact a3
      have u49 : m_w4 u 9 = nI w := by rw [m_w4_k _ (by decide)]; exact u9
      generalize m_w4 u = u2 at a4 u49 ⊢
      have sp9 : m_sp1 u2 9 = nI w := by rw [m_sp1_k _ (by decide) (by decide)]; exact u49
      have asp : m_sp1 u2 j = v j := by
        rw [m_sp1]
        have := tm (x_u u2 3 0) 6 1 (by rw [x_un _ _ (by decide)]; exact u49) (by decide)
        rw [show nI 6 = (6 : Int32) from rfl] at this
        rw [this, x_un _ _ (by omega), a4]
      have a5 : m_w5 T u2 j = v j := by
        rw [m_w5]
        split
        · exact a4
        · rw [m_spit]
          split
          · have := tm (m_sp1 u2) 4 (if x_inb (m_sp1 u2 9) 6 = true then T.1 6 (x_ix (m_sp1 u2 9)) else 0) sp9 (by decide)
            rw [show nI 4 = (4 : Int32) from rfl] at this
            rw [this, asp]
          · exact asp
      rw [m_w6_k T _ (by omega), a5]
    · have b2 : m_sl2 (m_sl1 T v) j = v j := by
        rw [m_sl2, x_un _ _ (by omega), m_sl1, x_un _ _ (by omega)]
        have := tm (x_u v 0 (x_wi (v 0 + m_tells T 0 v) 0 99)) 3 1 (by rw [x_un _ _ (by decide)]; exact h9) (by decide)
        rw [show nI 3 = (3 : Int32) from rfl] at this
        rw [this, x_un _ _ (by omega)]
      rw [m_asleep]
      split
      · rw [x_un _ _ (by omega), x_un _ _ (by omega), b2]
      · exact b2
theorem m_kp_t {w : Nat} (h6 : w < 6) : ∀ (K : Nat) (v : x_V) (l : Int32), v 9 = nI w → m_kp T K v l 9 = nI w ∧ ∀ j, 20 ≤ j → (j < 20 + 7 * w ∨ 27 + 7 * w ≤ j) → m_kp T K v l j = v j := by
  intro K
  induction K with
  | zero => intro v l h; exact ⟨h, fun _ _ _ => rfl⟩
  | succ K ih =>
    intro v l h
    rw [m_kp]
    split
    · obtain ⟨a, b⟩ := ih (m_step T v) (if v 13 = 0 then l - 1 else l) (by rw [m_step_k T v (by unfold m_fix; omega)]; exact h)
      exact ⟨a, fun j h1 h2 => by rw [b j h1 h2, m_step_t h h6 h1 h2]⟩
    · exact ⟨h, fun _ _ _ => rfl⟩
theorem m_kp_I (hN : T.1 1 7 = nI N) (hN6 : N ≤ 6) : ∀ (K : Nat) (v : x_V) (l : Int32), m_I N v → m_I N (m_kp T K v l) ∧ ∃ s, s ≤ 99 * K ∧ m_all (m_kp T K v l) 1 = m_all v 1 + nI s := by
  intro K
  induction K with
  | zero => intro v l h; exact ⟨h, 0, by omega, by rw [show nI 0 = (0 : Int32) from rfl, Int32.add_zero]; rfl⟩
  | succ K ih =>
    intro v l h
    rw [m_kp]
    split
    · obtain ⟨e, c, hc, ec⟩ := m_all_step hN hN6 (Or.inl h)
      obtain ⟨hI, s, hs, es⟩ := ih (m_step T v) (if v 13 = 0 then l - 1 else l) (h.step hN hN6)
      exact ⟨hI, c + s, by omega, by rw [es, e, ec, Int32.add_assoc, nI_add]⟩
    · exact ⟨h, 0, by omega, by rw [show nI 0 = (0 : Int32) from rfl, Int32.add_zero]⟩
theorem m_kp_G {μ : x_Hp} {lv : Nat} (hT : y_Tx μ T lv N) : ∀ (K : Nat) (v : x_V) (l : Int32), y_G μ T N v → y_G μ T N (m_kp T K v l) := by
  intro K
  induction K with
  | zero => intro v l h; exact h
  | succ K ih =>
    intro v l h
    rw [m_kp]
    split
    · exact ih _ _ (h.step hT)
    · exact h
/-- it is with her, or it is handed to her -/
def m_to (T : x_TT) (v : x_V) (a : Int32) : x_V := if v 9 = a then v else m_over T v a
theorem m_to_lo (a : Int32) {j : Nat} (h : 20 ≤ j) : m_to T v a j = v j := by
  rw [m_to]; split
  · rfl
  · exact m_over_lo v a h
theorem m_to_9 (a : Int32) : m_to T v a 9 = a := by
  rw [m_to]; split
  · assumption
  · rw [m_over]; exact (m_give_9 T _ _).1
theorem m_to_13 (a : Int32) : m_to T v a 13 = v 13 := by
  rw [m_to]; split
  · rfl
  · rw [m_over_k T v _ (by decide)]
theorem m_to_tal (a b q : Int32) : m_tal (m_to T v a) b q = m_tal v b q := by
  rw [m_tal, m_tal]
  split
  · exact m_to_lo _ (by omega)
  · rfl
theorem m_to_all (a q : Int32) : m_all (m_to T v a) q = m_all v q := by
  rw [m_all, m_all, m_to_tal, m_to_tal, m_to_tal, m_to_tal, m_to_tal, m_to_tal]
theorem m_to_I (h : m_I N v) (hB : m_TB T N) {a : Nat} (ha : a < N) : m_I N (m_to T v (nI a)) := by
  rw [m_to]; split
  · exact h
  · exact h.over hB ha
theorem m_keep_to (a : Int32) (m : Nat) : m_keep T v a m = m_kp T (m * 61) (m_to T v a) (nI m) := rfl
theorem m_keep_9 {a : Nat} (ha : a < 6) (m : Nat) : m_keep T v (nI a) m 9 = nI a := (m_kp_t ha (m * 61) (m_to T v (nI a)) (nI m) (m_to_9 _)).1
theorem m_keep_t {a : Nat} (ha : a < 6) (m : Nat) {j : Nat} (h1 : 20 ≤ j) (h2 : j < 20 + 7 * a ∨ 27 + 7 * a ≤ j) : m_keep T v (nI a) m j = v j := by
  rw [m_keep_to, (m_kp_t ha (m * 61) (m_to T v (nI a)) (nI m) (m_to_9 _)).2 j h1 h2, m_to_lo _ h1]
theorem m_keep_tal {a b q : Nat} (ha : a < 6) (hb : b < 6) (hab : b ≠ a) (hq : q < 7) (m : Nat) : m_tal (m_keep T v (nI a) m) (nI b) (nI q) = m_tal v (nI b) (nI q) := by
  rw [m_tal_nI _ hb hq, m_tal_nI _ hb hq, m_keep_t ha m (by omega) (by omega)]
theorem m_keep_I (hN : T.1 1 7 = nI N) (hN6 : N ≤ 6) (hB : m_TB T N) (h : m_I N v) {a : Nat} (ha : a < N) (m : Nat) : m_I N (m_keep T v (nI a) m) ∧ ∃ s, s ≤ 99 * (m * 61) ∧ m_all (m_keep T v (nI a) m) 1 = m_all v 1 + nI s := by
  obtain ⟨h1, s, h2, h3⟩ := m_kp_I hN hN6 (m * 61) (m_to T v (nI a)) (nI m) (m_to_I h hB ha)
  refine ⟨h1, s, h2, ?_⟩
  rw [m_keep_to, h3, m_to_all]
theorem x_sum6 {a b c d e f x y : Int32} (i : Nat) (hi : i < 6) : (a + b + c + d + e + f : Int32) = a + b + c + d + e + f := rfl
/-- what all have is more by what she has more -/
theorem m_all_one {u : x_V} {a q : Nat} (ha : a < 6) (hq : q < 7) (h : ∀ b, b < 6 → b ≠ a → u (20 + (7 * b + q)) = v (20 + (7 * b + q))) : m_all u (nI q) - m_all v (nI q) = m_tal u (nI a) (nI q) - m_tal v (nI a) (nI q) := by
  have e : m_all u (nI q) = m_all v (nI q) + (m_tal u (nI a) (nI q) - m_tal v (nI a) (nI q)) := by
    rw [m_all_nI _ hq, m_all_nI _ hq, m_tal_nI _ ha hq, m_tal_nI _ ha hq]
    have g : ∀ b, b < 6 → b ≠ a → ∀ k, k = 20 + (7 * b + q) → u k = v k := fun b h1 h2 k hk => by rw [hk]; exact h b h1 h2
    have hc : a = 0 ∨ a = 1 ∨ a = 2 ∨ a = 3 ∨ a = 4 ∨ a = 5 := by omega
    have key : ∀ x y : Int32, x = y + (x - y) := fun x y => by rw [Int32.add_comm, Int32.sub_add_cancel]
    rcases hc with rfl | rfl | rfl | rfl | rfl | rfl
    · rw [g 1 (by decide) (by decide) (27 + q) (by omega), g 2 (by decide) (by decide) (34 + q) (by omega), g 3 (by decide) (by decide) (41 + q) (by omega), g 4 (by decide) (by decide) (48 + q) (by omega), g 5 (by decide) (by decide) (55 + q) (by omega), show 20 + (7 * 0 + q) = 20 + q by omega]
      conv => lhs; rw [key (u (20 + q)) (v (20 + q))]
      ac_rfl
    · rw [g 0 (by decide) (by decide) (20 + q) (by omega), g 2 (by decide) (by decide) (34 + q) (by omega), g 3 (by decide) (by decide) (41 + q) (by omega), g 4 (by decide) (by decide) (48 + q) (by omega), g 5 (by decide) (by decide) (55 + q) (by omega), show 20 + (7 * 1 + q) = 27 + q by omega]
      conv => lhs; rw [key (u (27 + q)) (v (27 + q))]
      ac_rfl
    · rw [g 0 (by decide) (by decide) (20 + q) (by omega), g 1 (by decide) (by decide) (27 + q) (by omega), g 3 (by decide) (by decide) (41 + q) (by omega), g 4 (by decide) (by decide) (48 + q) (by omega), g 5 (by decide) (by decide) (55 + q) (by omega), show 20 + (7 * 2 + q) = 34 + q by omega]
      conv => lhs; rw [key (u (34 + q)) (v (34 + q))]
      ac_rfl
    · rw [g 0 (by decide) (by decide) (20 + q) (by omega), g 1 (by decide) (by decide) (27 + q) (by omega), g 2 (by decide) (by decide) (34 + q) (by omega), g 4 (by decide) (by decide) (48 + q) (by omega), g 5 (by decide) (by decide) (55 + q) (by omega), show 20 + (7 * 3 + q) = 41 + q by omega]
      conv => lhs; rw [key (u (41 + q)) (v (41 + q))]
      ac_rfl
    · rw [g 0 (by decide) (by decide) (20 + q) (by omega), g 1 (by decide) (by decide) (27 + q) (by omega), g 2 (by decide) (by decide) (34 + q) (by omega), g 3 (by decide) (by decide) (41 + q) (by omega), g 5 (by decide) (by decide) (55 + q) (by omega), show 20 + (7 * 4 + q) = 48 + q by omega]
      conv => lhs; rw [key (u (48 + q)) (v (48 + q))]
      ac_rfl
    · rw [g 0 (by decide) (by decide) (20 + q) (by omega), g 1 (by decide) (by decide) (27 + q) (by omega), g 2 (by decide) (by decide) (34 + q) (by omega), g 3 (by decide) (by decide) (41 + q) (by omega), g 4 (by decide) (by decide) (48 + q) (by omega), show 20 + (7 * 5 + q) = 55 + q by omega]
      conv => lhs; rw [key (u (55 + q)) (v (55 + q))]
      ac_rfl
  rw [e, x_sub_l]
theorem m_keep_all {a : Nat} (ha : a < 6) (m : Nat) : m_all (m_keep T v (nI a) m) 1 - m_all v 1 = m_tal (m_keep T v (nI a) m) (nI a) 1 - m_tal v (nI a) 1 := m_all_one (q := 1) ha (by decide) (fun b hb hab => m_keep_t ha m (by omega) (by omega))
end K1
/-! the reference's: she is given it, and what is written down of it -/
section K2
variable {ν : x_Hp} {T : x_TT} {lv N : Nat} {u : x_V}
theorem y_wr_o (μ : x_Hp) (a : Nat) (sl cr la : Int32) {i j : Nat} (h1 : i ≠ 35) (h2 : i ≠ 36) (h3 : i ≠ 0 ∨ (j ≠ 56 ∧ j ≠ 57)) : (y_wr μ a sl cr la).1 i j = μ.1 i j := by
  rw [y_wr, x_pI_1, if_neg (by omega), x_pI_1, if_neg (by omega), x_pI_1, if_neg (by omega), x_pI_1, if_neg (by omega)]
theorem y_wr_35 (μ : x_Hp) (a b : Nat) (sl cr la : Int32) : (y_wr μ a sl cr la).1 35 b = if b = a then cr else μ.1 35 b := by
  rw [y_wr, x_pI_1, if_neg (by omega), x_pI_1, if_neg (by omega), x_pI_1]
  by_cases h : b = a
  · rw [if_pos ⟨rfl, h⟩, if_pos h]
  · rw [if_neg (by omega), if_neg h, x_pI_1, if_neg (by omega)]
theorem y_wr_36 (μ : x_Hp) (a b : Nat) (sl cr la : Int32) : (y_wr μ a sl cr la).1 36 b = if b = a then la else μ.1 36 b := by
  rw [y_wr, x_pI_1, if_neg (by omega), x_pI_1]
  by_cases h : b = a
  · rw [if_pos ⟨rfl, h⟩, if_pos h]
  · rw [if_neg (by omega), if_neg h, x_pI_1, if_neg (by omega), x_pI_1, if_neg (by omega)]
theorem y_wr_56 (μ : x_Hp) (a : Nat) (sl cr la : Int32) : (y_wr μ a sl cr la).1 0 56 = μ.1 0 56 + cr := by
  rw [y_wr, x_pI_1, if_pos ⟨rfl, rfl⟩]
theorem y_wr_57 (μ : x_Hp) (a : Nat) (sl cr la : Int32) : (y_wr μ a sl cr la).1 0 57 = sl := by
  rw [y_wr, x_pI_1, if_neg (by omega), x_pI_1, if_neg (by omega), x_pI_1, if_neg (by omega), x_pI_1, if_pos ⟨rfl, rfl⟩]
theorem y_wr_agr (μ : x_Hp) (a : Nat) (sl cr la : Int32) : y_agr μ (y_wr μ a sl cr la) := fun i j h1 h2 => y_wr_o μ a sl cr la (by omega) (by omega) (by omega)
theorem y_wr_sm (μ : x_Hp) (a : Nat) (sl cr la : Int32) : y_sm μ (y_wr μ a sl cr la) := by
  intro i j h
  unfold y_Sb at h
  exact y_wr_o μ a sl cr la (by omega) (by omega) (by omega)
/-- what she has of it: cry, laughs -/
def m_kc (T : x_TT) (u : x_V) (a m : Nat) (q : Int32) : Int32 := m_tal (m_keep T u (nI a) m) (nI a) q - m_tal u (nI a) q
def m_ks (T : x_TT) (u : x_V) (a m : Nat) : Bool := m_kq T (m * 61) (m_to T u (nI a)) (nI m)
def y_g1 (T : x_TT) (ν : x_Hp) (u : x_V) (a m : Nat) : x_Hp := y_wr ν a (y_sl ν (nI a) (m_ks T u a m)) (m_kc T u a m 1) (m_kc T u a m 2)
theorem y_give (hT : y_Tx ν T lv N) (hB : m_TB T N) (h51 : ν.1 0 51 = -1) (hG : y_G ν T N u) (h13 : u 13 = nI 0) (d : y_Sc) {a m : Nat} (ha : a < N) (hm : m ≤ 20) : ∃ d2, F_X9_gives (nI a) (nI m) (z_hp ν u d) = some ((), z_hp (y_g1 T ν u a m) (m_keep T u (nI a) m) d2) ∧ m_keep T u (nI a) m 13 = nI 0 ∧ y_G (y_g1 T ν u a m) T N (m_keep T u (nI a) m) := by
  obtain ⟨d2, g, k⟩ := y_gives hT hB h51 hG h13 d ha hm
  refine ⟨d2, ?_, k, ?_⟩
  · rw [g, y_g1, m_ks, m_kc, m_kc]
    have t1 : m_tal (if u 9 = nI a then u else m_over T u (nI a)) (nI a) 1 = m_tal u (nI a) 1 := m_to_tal (T := T) (v := u) (nI a) (nI a) 1
    have t2 : m_tal (if u 9 = nI a then u else m_over T u (nI a)) (nI a) 2 = m_tal u (nI a) 2 := m_to_tal (T := T) (v := u) (nI a) (nI a) 2
    rw [t1, t2]; rfl
  · refine y_G.agr (y_wr_agr _ _ _ _ _) ?_
    rw [m_keep_to]
    refine m_kp_G hT _ _ _ ?_
    rw [m_to]
    split
    · exact hG
    · exact hG.over hT hB h51 ha
end K2
