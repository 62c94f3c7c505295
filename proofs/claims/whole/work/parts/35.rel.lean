/-! SUMS -/
theorem m_all_step {T : x_TT} {N : Nat} {v : x_V} (hN : T.1 1 7 = nI N) (hN6 : N ≤ 6) (h : m_I N v ∨ m_Z N v) : m_all (m_step T v) 1 = m_all v 1 + m_step T v 12 ∧ ∃ c, c ≤ 99 ∧ m_step T v 12 = nI c := by
  have au : ∀ (u : x_V) (k : Nat) (x : Int32), k < 20 → m_all (x_u u k x) 1 = m_all u 1 := fun u k x hk => m_all_u u hk x (w := 1) (by decide)
  have at' : ∀ (u : x_V) (w q : Nat) (x : Int32), u 9 = nI w → w < 6 → q < 7 → m_all (m_tm u (nI q) x) 1 = if 1 = q then m_all u 1 + x else m_all u 1 := by
    intro u w q x h9 h6 hq
    rw [m_tm_nI u h9 h6 hq]
    exact m_all_tal u h6 hq x (p := 1) (by decide)
  rcases h with h | h
  · obtain ⟨w, hw, h9⟩ := h.1
    have h6 : w < 6 := by omega
    have hn : ¬ T.1 1 7 ≤ 0 := by rw [hN]; exact nI_nle (by omega) (by omega)
    have e1 : m_all (m_step T v) 1 = m_all (if v 13 ≤ 0 then m_awake T v else m_asleep T v) 1 := by
      rw [m_step, au _ _ _ (by decide), m_mn, if_neg hn]
    have e2 : m_step T v 12 = (if v 13 ≤ 0 then m_awake T v else m_asleep T v) 12 := by
      rw [m_step, x_un _ _ (by decide), m_mn, if_neg hn]
    rw [e1, e2]
    by_cases h0 : v 13 ≤ 0
    · rw [if_pos h0]
      refine ⟨?_, m_awake_12 T v⟩
      have w9 : m_w2 T (m_w1 T v) 9 = nI w := by rw [m_w2_k T _ (by decide), m_w1_k T _ (by decide)]; exact h9
      have a2 : m_all (m_w2 T (m_w1 T v)) 1 = m_all v 1 := by
        rw [m_w2, au _ _ _ (by decide), au _ _ _ (by decide), m_w1, au _ _ _ (by decide), au _ _ _ (by decide), au _ _ _ (by decide), au _ _ _ (by decide)]
      have a3 : m_all (m_w3 (m_w2 T (m_w1 T v))) 1 = m_all v 1 + m_w3 (m_w2 T (m_w1 T v)) 12 := by
        rw [m_w3_k _ (by decide), m_w3]
        have := at' (m_tm (m_w2 T (m_w1 T v)) 0 1) w 1 (m_tm (m_w2 T (m_w1 T v)) 0 1 12) (by rw [m_tm_lt _ _ _ (by decide)]; exact w9) h6 (by decide)
        rw [show nI 1 = (1 : Int32) from rfl] at this
        rw [this, if_pos rfl]
        have h0' := at' (m_w2 T (m_w1 T v)) w 0 1 w9 h6 (by decide)
        rw [show nI 0 = (0 : Int32) from rfl] at h0'
        rw [h0', if_neg (by decide), a2, m_tm_lt _ _ _ (by decide)]
      have u9 : m_w3 (m_w2 T (m_w1 T v)) 9 = nI w := by rw [m_w3_k _ (by decide)]; exact w9
      rw [m_awake]
      generalize m_w3 (m_w2 T (m_w1 T v)) = u at a3 u9 ⊢
      have a4 : m_all (m_w4 u) 1 = m_all u 1 := by
        rw [m_w4]
        split
        · split
          · rfl
          · have := at' u w 2 1 u9 h6 (by decide)
            rw [show nI 2 = (2 : Int32) from rfl] at this
            rw [this, if_neg (by decide)]
        · rfl
      have u49 : m_w4 u 9 = nI w := by rw [m_w4_k _ (by decide)]; exact u9
      have e12 : m_w4 u 12 = u 12 := m_w4_k _ (by decide)
      generalize m_w4 u = u2 at a4 u49 e12 ⊢
      have sp9 : m_sp1 u2 9 = nI w := by rw [m_sp1_k _ (by decide) (by decide)]; exact u49
      have asp : m_all (m_sp1 u2) 1 = m_all u2 1 := by
        rw [m_sp1]
        have := at' (x_u u2 3 0) w 6 1 (by rw [x_un _ _ (by decide)]; exact u49) h6 (by decide)
        rw [show nI 6 = (6 : Int32) from rfl] at this
        rw [this, if_neg (by decide), au _ _ _ (by decide)]
      have a5 : m_all (m_w5 T u2) 1 = m_all u2 1 := by
        rw [m_w5]
        split
        · rfl
        · rw [m_spit]
          split
          · have := at' (m_sp1 u2) w 4 (if x_inb (m_sp1 u2 9) 6 = true then T.1 6 (x_ix (m_sp1 u2 9)) else 0) sp9 h6 (by decide)
            rw [show nI 4 = (4 : Int32) from rfl] at this
            rw [this, if_neg (by decide), asp]
          · exact asp
      have e125 : m_w5 T u2 12 = u2 12 := m_w5_k T _ (by decide) (by decide)
      generalize m_w5 T u2 = u3 at a5 e125 ⊢
      have a6 : m_all (m_w6 T u3) 1 = m_all u3 1 := by
        rw [m_w6]
        split
        · rfl
        · rw [m_fall, au _ _ _ (by decide), au _ _ _ (by decide)]
      rw [a6, a5, a4, a3, m_w6_k T _ (by decide), e125, e12]
    · rw [if_neg h0]
      have b1 : m_all (m_sl2 (m_sl1 T v)) 1 = m_all v 1 := by
        rw [m_sl2, au _ _ _ (by decide), m_sl1, au _ _ _ (by decide)]
        have := at' (x_u v 0 (x_wi (v 0 + m_tells T 0 v) 0 99)) w 3 1 (by rw [x_un _ _ (by decide)]; exact h9) h6 (by decide)
        rw [show nI 3 = (3 : Int32) from rfl] at this
        rw [this, if_neg (by decide), au _ _ _ (by decide)]
      have b2 : m_sl2 (m_sl1 T v) 12 = 0 := by
        rw [m_sl2, x_un _ _ (by decide), m_sl1, x_ub]
      have b3 : m_all (m_asleep T v) 1 = m_all v 1 ∧ m_asleep T v 12 = 0 := by
        rw [m_asleep]
        split
        · exact ⟨by rw [au _ _ _ (by decide), au _ _ _ (by decide), b1], by rw [x_un _ _ (by decide), x_un _ _ (by decide), b2]⟩
        · exact ⟨b1, b2⟩
      rw [b3.1, b3.2, Int32.add_zero]
      exact ⟨rfl, 0, by decide, rfl⟩
  · rw [h.stepEq hN, au _ _ _ (by decide), x_un _ _ (by decide), h.2.2.2, Int32.add_zero]
    exact ⟨rfl, 0, by decide, rfl⟩
theorem m_WZ.step {T : x_TT} {N : Nat} {v : x_V} (hN : T.1 1 7 = nI N) (hN6 : N ≤ 6) (h : m_I N v ∨ m_Z N v) : m_I N (m_step T v) ∨ m_Z N (m_step T v) := by
  rcases h with h1 | h1
  · exact Or.inl (h1.step hN hN6)
  · exact Or.inr (h1.step hN)
/-- all that is cried in d minutes -/
theorem m_cry (T : x_TT) (N : Nat) (hN : T.1 1 7 = nI N) (hN6 : N ≤ 6) : ∀ (d : Nat) (v : x_V), (m_I N v ∨ m_Z N v) → ∃ s, s ≤ 99 * d ∧ m_all (m_goes T d v) 1 = m_all v 1 + nI s := by
  intro d
  induction d with
  | zero => intro v _; exact ⟨0, by omega, by rw [show nI 0 = (0 : Int32) from rfl, Int32.add_zero]; rfl⟩
  | succ d ih =>
    intro v h
    obtain ⟨e, c, hc, ec⟩ := m_all_step hN hN6 h
    obtain ⟨s, hs, es⟩ := ih (m_step T v) (m_WZ.step hN hN6 h)
    refine ⟨c + s, by omega, ?_⟩
    rw [m_goes, es, e, ec, Int32.add_assoc, nI_add]
theorem x_sub_l (a b : Int32) : a + b - a = b := by rw [Int32.add_comm, Int32.add_sub_cancel]
theorem m_cryN {T : x_TT} {N : Nat} (hN : T.1 1 7 = nI N) (hN6 : N ≤ 6) (d : Nat) {v : x_V} (h : m_I N v ∨ m_Z N v) : ∃ s, s ≤ 99 * d ∧ m_all (m_goes T d v) 1 - m_all v 1 = nI s := by
  obtain ⟨s, h1, h2⟩ := m_cry T N hN hN6 d v h
  exact ⟨s, h1, by rw [h2, x_sub_l]⟩
theorem m_J.IZ {T : x_TT} {N t : Nat} {v : x_V} (h : m_J T N t v) : m_I N v ∨ m_Z N v := by
  rcases h.1 with q | q
  · exact Or.inl q.1
  · exact Or.inr q
/-! WHAT MAY BE WRITTEN ON THE WAY -/
def x_Sb (a b : Nat) : Prop := a = 13 ∨ (a = 8 ∧ b = 7) ∨ a = 37 ∨ a = 38 ∨ a = 167 ∨ a = 168
def x_sm (σ τ : x_Hp) : Prop := ∀ a b, ¬ x_Sb a b → τ.1 a b = σ.1 a b
def y_Sb (a b : Nat) : Prop := (a = 0 ∧ (b = 47 ∨ b = 50 ∨ b = 51 ∨ b = 52 ∨ b = 56 ∨ b = 57 ∨ b = 61 ∨ b = 63 ∨ b = 65 ∨ b = 66)) ∨ a = 29 ∨ a = 30 ∨ a = 32 ∨ a = 33 ∨ (35 ≤ a ∧ a ≤ 40)
def y_sm (μ ν : x_Hp) : Prop := ∀ a b, ¬ y_Sb a b → ν.1 a b = μ.1 a b
theorem x_sm.rf (σ : x_Hp) : x_sm σ σ := fun _ _ _ => rfl
theorem y_sm.rf (μ : x_Hp) : y_sm μ μ := fun _ _ _ => rfl
theorem x_sm.tr {σ τ υ : x_Hp} (h : x_sm σ τ) (g : x_sm τ υ) : x_sm σ υ := fun a b n => (g a b n).trans (h a b n)
theorem y_sm.tr {σ τ υ : x_Hp} (h : y_sm σ τ) (g : y_sm τ υ) : y_sm σ υ := fun a b n => (g a b n).trans (h a b n)
theorem x_sm.hp (σ : x_Hp) (v : x_V) (c : x_Sc) : x_sm σ (x_hp σ 37 v c) := by
  intro a b n
  unfold x_Sb at n
  simp only [x_hp]
  rw [if_neg (by omega), if_neg (by omega), if_neg (by omega), if_neg (by omega)]
theorem x_sm.put {σ : x_Hp} {a b : Nat} (h : x_Sb a b) (x : Int32) : x_sm σ (x_pI σ a b x) := by
  intro i j n
  rw [x_pI_1, if_neg (by rintro ⟨rfl, rfl⟩; exact n h)]
theorem y_sm.put {σ : x_Hp} {a b : Nat} (h : y_Sb a b) (x : Int32) : y_sm σ (x_pI σ a b x) := by
  intro i j n
  rw [x_pI_1, if_neg (by rintro ⟨rfl, rfl⟩; exact n h)]
theorem y_sm.hp (μ : x_Hp) (v : x_V) (c : y_Sc) : y_sm μ (z_hp μ v c) := by
  intro a b n
  unfold y_Sb at n
  exact z_oth μ v c b (by omega) (by omega) (by omega) (by omega) (by omega)
theorem y_sm.set (μ : x_Hp) (s w x : Int32) : y_sm μ (y_set μ s w x) := by
  intro a b n
  unfold y_Sb at n
  exact y_set_o μ s w x (by omega)
/-! the text, seen by what it rests on -/
def y_agt (μ τ : x_Hp) : Prop := τ.1 0 18 = μ.1 0 18 ∧ ∀ a b, 9 ≤ a → a < 28 → τ.1 a b = μ.1 a b
theorem y_sm.agt {μ τ : x_Hp} (h : y_sm μ τ) : y_agt μ τ := ⟨h 0 18 (by unfold y_Sb; omega), fun a b h1 h2 => h a b (by unfold y_Sb; omega)⟩
theorem y_cd.agt {μ τ : x_Hp} (h : y_agt μ τ) {a e : Int32} {cs : List Int32} (hc : y_cd μ a e cs) : y_cd τ a e cs := by
  obtain ⟨h1, f, h2, h3, h4, h5⟩ := hc
  refine ⟨h1, f, h2, h3, h4, fun i hi => ?_⟩
  rw [h.2 26 _ (by decide) (by omega), h.2 27 _ (by decide) (by omega)]
  exact h5 i hi
theorem y_brs.agt {μ τ : x_Hp} (h : y_agt μ τ) : ∀ (qs : List (List Int32 × List Int32 × List Int32)) (z : List Int32) (b : Nat), y_brs μ b qs z → y_brs τ b qs z := by
  intro qs
  induction qs with
  | nil =>
    intro z b ⟨h1, h2, h3⟩
    refine ⟨h1, ?_, ?_⟩
    · rw [h.2 21 _ (by decide) (by omega)]; exact h2
    · rw [h.2 24 _ (by decide) (by omega), h.2 25 _ (by decide) (by omega)]; exact h3.agt h
  | cons q qs ih =>
    intro z b ⟨h1, h2, h3, h4, h5, h6⟩
    refine ⟨h1, ?_, ?_, ?_, ?_, ih z (b + 1) h6⟩
    · rw [h.2 21 _ (by decide) (by omega)]; exact h2
    · rw [h.2 22 _ (by decide) (by omega), h.2 23 _ (by decide) (by omega)]; exact h3.agt h
    · rw [h.2 23 _ (by decide) (by omega), h.2 24 _ (by decide) (by omega)]; exact h4.agt h
    · rw [h.2 24 _ (by decide) (by omega), h.2 25 _ (by decide) (by omega)]; exact h5.agt h
theorem y_Tx.agt {μ τ : x_Hp} (h : y_agt μ τ) {T : x_TT} {lv N : Nat} (hT : y_Tx μ T lv N) : y_Tx τ T lv N := by
  obtain ⟨h1, h2, h3, h4, h5, h6, h7, h8, h9, h10, h11⟩ := hT
  refine ⟨h1, h2, ?_, h4, ?_, fun a ha => ?_, ?_, ?_, ?_, fun k hk => ?_, fun k hk => ?_⟩
  · rw [h.1]; exact h3
  · rw [h.2 10 _ (by decide) (by omega)]; exact h5
  · rw [h.2 11 _ (by decide) (by omega), h.2 12 _ (by decide) (by omega), h.2 13 _ (by decide) (by omega), h.2 14 _ (by decide) (by omega), h.2 15 _ (by decide) (by omega)]; exact h6 a ha
  · rw [h.2 16 _ (by decide) (by omega)]; exact h7
  · rw [h.2 17 _ (by decide) (by omega)]; exact h8
  · rw [h.2 18 _ (by decide) (by omega)]; exact h9
  · rw [h.2 9 _ (by decide) (by omega)]; exact h10 k hk
  · rw [h.2 19 _ (by decide) (by omega), h.2 20 _ (by decide) (by omega)]
    rcases h11 k hk with q | ⟨f, q1, q2, q3, q4⟩
    · exact Or.inl q
    · exact Or.inr ⟨f, q1, q2, y_brs.agt h _ _ _ q3, q4.1, q4.2.1, fun b r g1 g2 g3 g4 g5 => by rw [h.2 r b (by omega) (by omega)]; exact q4.2.2 b r g1 g2 g3 g4 g5⟩
theorem x_Tx.ag {σ τ : x_Hp} {T : x_TT} (h : ∀ a b, a = 1 ∨ (3 ≤ a ∧ a ≤ 7) ∨ (9 ≤ a ∧ a ≤ 12) → τ.1 a b = σ.1 a b) (hT : x_Tx σ T) : x_Tx τ T := by
  refine ⟨fun b => by rw [h 1 b (by omega)]; exact hT.1 b, fun a b h1 h2 => by rw [h a b (by omega)]; exact hT.2.1 a b h1 h2, ?_⟩
  have e : ∀ a, 9 ≤ a ∧ a ≤ 12 → τ.1 a = σ.1 a := fun a ha => funext fun b => h a b (by omega)
  rw [e 9 (by omega), e 10 (by omega), e 11 (by omega), e 12 (by omega)]
  exact hT.2.2
/-! BOTH SIDES: the text and what stands -/
def r_V (σ μ : x_Hp) (T : x_TT) (lv N t : Nat) (v : x_V) : Prop := x_Tx σ T ∧ y_Tx μ T lv N ∧ m_TB T N ∧ x_gS σ 35 = v ∧ m_J T N t v ∧ ∀ k, k < 60 → μ.1 31 k = y_rv v k
theorem x_sm.gS {σ τ : x_Hp} (h : x_sm σ τ) : x_gS τ 35 = x_gS σ 35 := by
  funext k
  simp only [x_gS]
  rw [h 35 _ (by unfold x_Sb; omega), h 36 _ (by unfold x_Sb; omega)]
theorem r_V.sm {σ μ τ ν : x_Hp} {T : x_TT} {lv N t : Nat} {v : x_V} (h : r_V σ μ T lv N t v) (hs : x_sm σ τ) (hm : y_sm μ ν) : r_V τ ν T lv N t v := by
  obtain ⟨h1, h2, h3, h4, h5, h6⟩ := h
  refine ⟨h1.ag (fun a b q => hs a b (by unfold x_Sb; omega)), h2.agt hm.agt, h3, by rw [hs.gS]; exact h4, h5, fun k hk => ?_⟩
  rw [hm 31 k (by unfold y_Sb; omega)]; exact h6 k hk
theorem x_St37 : x_St 37 := by show x_kd TX 37 = 5; decide +kernel
theorem x_St35 : x_St 35 := by show x_kd TX 35 = 5; decide +kernel
section RVV
variable {σ μ : x_Hp} {T : x_TT} {lv N t : Nat} {v : x_V}
theorem r_V.g (h : r_V σ μ T lv N t v) {k : Nat} (hk : k < 20) : σ.1 35 k = v k := by
  rw [← h.2.2.2.1]; simp [x_gS, hk]
theorem r_V.n (h : r_V σ μ T lv N t v) : σ.1 1 7 = nI N ∧ N ≤ 6 ∧ T.1 1 7 = nI N := ⟨by rw [h.1.1 7]; exact h.2.1.2.2.2.1, h.2.1.2.1, h.2.1.2.2.2.1⟩
theorem r_V.y18 (h : r_V σ μ T lv N t v) : lv < 2 ∧ μ.1 0 18 = nI lv ∧ μ.1 10 lv = nI N := ⟨h.2.1.1, h.2.1.2.2.1, h.2.1.2.2.2.2.1⟩
theorem r_V.m {k : Nat} (h : r_V σ μ T lv N t v) (j : Nat) (hk : y_pos j = k) (hj : j < 20) (h20 : k < 20) : μ.1 31 k = v j := by
  rw [h.2.2.2.2.2 k (by omega)]; exact y_rv_g v hk hj h20
theorem r_V.sr (h : r_V σ μ T lv N t v) {τ ν : x_Hp} (hs : x_sm σ τ) (hm : y_sm μ ν) : r_V τ ν T lv N t v := h.sm hs hm
theorem k_take (h : r_V σ μ T lv N t v) : F_X5_takeFrom 37 35 σ = some ((), x_hp σ 37 v (x_sc σ)) := by
  have := e_take x_St37 x_St35 (by decide) σ (x_gS σ 37) (x_sc σ)
  rw [← x_hp_of σ x_St37, h.2.2.2.1] at this
  exact this
def y_m0 (μ : x_Hp) (lv : Nat) : x_Hp := y_set μ (μ.1 18 lv) (-1) 0
theorem y_m0.sm (μ : x_Hp) (lv : Nat) : y_sm μ (y_m0 μ lv) := y_sm.set _ _ _ _
theorem z_take (h : r_V σ μ T lv N t v) : F_X9_copies μ = some ((), z_hp (y_m0 μ lv) v (y_sc μ)) := y_copies h.2.1.1 h.2.1.2.2.1 h.2.2.2.2.2
theorem r_V.t0 (h : r_V σ μ T lv N t v) : y_Tx (y_m0 μ lv) T lv N := h.2.1.agt (y_m0.sm μ lv).agt
theorem y_m0_51 (μ : x_Hp) (lv : Nat) : (y_m0 μ lv).1 0 51 = -1 := y_set_51 _ _ _ _
theorem m_Wy.G {ν : x_Hp} {u : x_V} (h : m_Wy T N u) (hN6 : N ≤ 6) (h51 : ν.1 0 51 = -1) (h50 : ν.1 0 50 = u 16) : y_G ν T N u := by
  obtain ⟨hI, w, h1, h2, h3, h4, h5⟩ := h
  refine ⟨hI, w, h1, h2, ?_, h4, h5, h50⟩
  rw [if_neg ?_]
  · exact h3
  · rw [h51]
    intro q
    have := nI_pos (n := w) (by omega)
    rw [q] at this
    exact this (by decide)
theorem r_V.H (h : r_V σ μ T lv N t v) : y_H (y_m0 μ lv) T N v := by
  obtain ⟨-, hT, -, -, ⟨hJ, h16, -⟩, -⟩ := h
  rcases hJ with q | q
  · refine Or.inl (q.G hT.2.1 (y_m0_51 μ lv) ?_)
    rw [y_m0, y_set_50, hT.2.2.2.2.2.2.2.2.1, h16]
  · exact Or.inr q
/-- a query of both -/
def q_S (σ μ : x_Hp) (A B : Option (Int32 × x_Hp)) : Prop := ∃ r τ ν, A = some (r, τ) ∧ B = some (r, ν) ∧ x_sm σ τ ∧ y_sm μ ν
theorem q_S.c (σ μ : x_Hp) (r : Int32) : q_S σ μ (some (r, σ)) (some (r, μ)) := ⟨r, σ, μ, rfl, rfl, x_sm.rf σ, y_sm.rf μ⟩
theorem q_S.d {σ μ τ ν : x_Hp} (r : Int32) (h : x_sm σ τ) (g : y_sm μ ν) : q_S σ μ (some (r, τ)) (some (r, ν)) := ⟨r, τ, ν, rfl, rfl, h, g⟩
theorem q_S.tr {σ μ τ ν : x_Hp} {A B : Option (Int32 × x_Hp)} (h : x_sm σ τ) (g : y_sm μ ν) (q : q_S τ ν A B) : q_S σ μ A B := by
  obtain ⟨r, τ', ν', a, b, c, d⟩ := q
  exact ⟨r, τ', ν', a, b, h.tr c, g.tr d⟩
theorem q_btw (x : Int32) {a' b' : Int32} (a b : Nat) (ha : a' = nI a) (hb : b' = nI b) (hab : b < 2 ^ 31) (hab2 : a ≤ b) : (∃ j, a ≤ j ∧ j ≤ b ∧ x = nI j ∧ (∀ σ, F_X8_between x a' b' σ = some (1, σ)) ∧ ∀ μ, F_X9_in x a' b' μ = some (1, μ)) ∨ ((∀ σ, F_X8_between x a' b' σ = some (0, σ)) ∧ (∀ μ, F_X9_in x a' b' μ = some (0, μ)) ∧ ∀ j, j < 2 ^ 31 → x = nI j → ¬ (a ≤ j ∧ j ≤ b)) := by
  subst ha; subst hb
  by_cases hc : x < nI a
  · right
    refine ⟨fun σ => by rw [F_X8_between, if_pos hc], fun σ => by rw [F_X9_in, if_pos hc], ?_⟩
    rintro j hj rfl ⟨h1, -⟩
    exact nI_nlt h1 hj hc
  · by_cases hd : nI b < x
    · right
      refine ⟨fun σ => by rw [F_X8_between, if_neg hc, if_pos hd], fun σ => by rw [F_X9_in, if_neg hc, if_pos hd], ?_⟩
      rintro j hj rfl ⟨-, h2⟩
      exact nI_nlt h2 hab hd
    · left
      have ta := nI_toInt (n := a) (by omega)
      have tb := nI_toInt hab
      rw [Int32.lt_iff_toInt_lt] at hc hd
      obtain ⟨j, hj, e⟩ := nI_of (x := x) (by rw [Int32.lt_iff_toInt_lt, Int32.toInt_zero]; omega)
      have tj := nI_toInt hj
      subst e
      refine ⟨j, by omega, by omega, rfl, fun σ => ?_, fun σ => ?_⟩
      · rw [F_X8_between, if_neg (nI_nlt (by omega) hj), if_neg (nI_nlt (by omega) hab)]
      · rw [F_X9_in, if_neg (nI_nlt (by omega) hj), if_neg (nI_nlt (by omega) hab)]
theorem q_aunt (h : r_V σ μ T lv N t v) (x : Int32) : (∃ a, a < N ∧ x = nI a ∧ F_X8_isAunt x σ = some (1, σ) ∧ F_X9_isAunt x μ = some (1, μ)) ∨ (F_X8_isAunt x σ = some (0, σ) ∧ F_X9_isAunt x μ = some (0, μ)) := by
  obtain ⟨n1, n6, -⟩ := h.n
  obtain ⟨hlv, y18, y10⟩ := h.y18
  rw [F_X8_isAunt, F_X9_isAunt, n1, y18, x_gd_t (x_inb_nI hlv (by decide)), x_ix_nI (by omega), y10]
  by_cases hc : x < 0
  · right
    rw [if_pos hc, F_X9_in, if_pos hc, x_b_s, x_gd_t (by decide)]
    exact ⟨rfl, rfl⟩
  · obtain ⟨j, hj, rfl⟩ := nI_of hc
    rw [if_neg hc]
    by_cases hd : j < N
    · left
      refine ⟨j, hd, rfl, ?_, ?_⟩
      · rw [if_neg (nI_ge hd (by omega))]
      · rw [F_X9_in, if_neg hc, show (1 : Int32) = nI 1 from rfl, pk_sub (by omega), if_neg (nI_nlt (by omega) (by omega)), x_b_s, x_gd_t (by decide)]
    · right
      refine ⟨by rw [if_pos (nI_le (by omega) hj)], ?_⟩
      rw [F_X9_in, if_neg hc]
      rcases Nat.eq_zero_or_pos N with q | q
      · rw [q, if_pos ?_, x_b_s, x_gd_t (by decide)]
        rw [Int32.lt_iff_toInt_lt, nI_toInt hj]
        show (-1 : Int32).toInt < _
        rw [show (-1 : Int32).toInt = -1 by decide]; omega
      · rw [show (1 : Int32) = nI 1 from rfl, pk_sub (by omega), if_pos (nI_lt (by omega) hj), x_b_s, x_gd_t (by decide)]
theorem q_awake (h : r_V σ μ T lv N t v) : (F_X8_asleepOrAlone σ = some (0, σ) ∧ F_X9_isAwake μ = some (1, μ) ∧ 0 < N ∧ v 13 = nI 0 ∧ m_Wy T N v) ∨ (F_X8_asleepOrAlone σ = some (1, σ) ∧ F_X9_isAwake μ = some (0, μ) ∧ (N = 0 ∨ 0 < v 13)) := by
  obtain ⟨n1, n6, -⟩ := h.n
  have m4 := h.m (k := 4) 9 rfl (by decide) (by decide)
  have m7 := h.m (k := 7) 13 rfl (by decide) (by decide)
  rw [F_X8_asleepOrAlone, F_X9_isAwake, h.g (by decide), n1, m4, m7]
  rcases h.2.2.2.2.1.1 with q | q
  · obtain ⟨hI, w, hw, h9, -⟩ := id q
    obtain ⟨a, ha, e13⟩ := hI.2.1
    rw [h9, if_neg (nI_pos (by omega)), e13]
    rcases Nat.eq_zero_or_pos a with z | z
    · left
      subst z
      rw [if_neg (by decide), if_neg (nI_ne0 (by omega) (by omega)), if_pos (show nI 0 = 0 from rfl)]
      exact ⟨rfl, rfl, by omega, rfl, q⟩
    · right
      have : (0 : Int32) < nI a := nI_lt (a := 0) z (by omega)
      rw [if_pos this, if_neg (nI_ne0 z (by omega))]
      exact ⟨rfl, rfl, Or.inr this⟩
  · right
    rw [q.2.2.1, if_neg (show ¬ (0 : Int32) < 0 by decide), q.2.1, if_pos (show (-2 : Int32) < 0 by decide), q.1, if_pos (show nI 0 = 0 from rfl)]
    exact ⟨rfl, rfl, Or.inl rfl⟩
end RVV
