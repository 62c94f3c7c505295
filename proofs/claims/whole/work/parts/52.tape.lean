/-! THE TAPE (its first rows are the kit's, pasted: laws/BITS) -/
def bt (x : Int32) (i : Nat) : Bool := x.toBitVec.getLsbD i
theorem b_ext {x y : Int32} (h : ∀ i, i < 32 → bt x i = bt y i) : x = y := Int32.toBitVec_inj.mp (BitVec.eq_of_getLsbD_eq (fun i hi => h i hi))
theorem b_or (x y : Int32) (i : Nat) : bt (x ||| y) i = (bt x i || bt y i) := by unfold bt; rw [Int32.toBitVec_or, BitVec.getLsbD_or]
theorem b_and (x y : Int32) (i : Nat) : bt (x &&& y) i = (bt x i && bt y i) := by unfold bt; rw [Int32.toBitVec_and, BitVec.getLsbD_and]
theorem b_xor (x y : Int32) (i : Nat) : bt (x ^^^ y) i = (bt x i ^^ bt y i) := by unfold bt; rw [Int32.toBitVec_xor, BitVec.getLsbD_xor]
theorem b_big {x : Int32} {i : Nat} (h : 32 ≤ i) : bt x i = false := BitVec.getLsbD_of_ge _ _ h
theorem b_255 (i : Nat) : bt 255 i = decide (i < 8) := by
  rcases Nat.lt_or_ge i 32 with h | h
  · exact (by decide +kernel : ∀ i, i < 32 → bt 255 i = decide (i < 8)) i h
  · rw [b_big h, decide_eq_false (by omega)]
theorem b_65535 (i : Nat) : bt 65535 i = decide (i < 16) := by
  rcases Nat.lt_or_ge i 32 with h | h
  · exact (by decide +kernel : ∀ i, i < 32 → bt 65535 i = decide (i < 16)) i h
  · rw [b_big h, decide_eq_false (by omega)]
theorem b_m1 : ∀ i, i < 32 → bt (-1) i = true := by decide +kernel
theorem b_0 (i : Nat) : bt 0 i = false := BitVec.getLsbD_zero
theorem s_l : ∀ n, n < 32 → ((nI n &&& 31).toBitVec.smod 32).toNat = n := by decide +kernel
theorem s_u : ∀ n, n < 32 → (((nI n).toUInt32 &&& Int32.toUInt32 31).toBitVec % 32).toNat = n := by decide +kernel
theorem b_shl (n : Nat) (hn : n < 32) (x : Int32) {i : Nat} (hi : i < 32) : bt (x <<< (nI n &&& 31)) i = (decide (n ≤ i) && bt x (i - n)) := by
  unfold bt
  rw [Int32.toBitVec_shiftLeft]
  show (x.toBitVec <<< ((nI n &&& 31).toBitVec.smod 32).toNat).getLsbD i = _
  rw [s_l n hn, BitVec.getLsbD_shiftLeft]
  rcases Nat.lt_or_ge i n with h | h
  · simp [h, Nat.not_le.mpr h]
  · simp [hi, h, Nat.not_lt.mpr h]
theorem b_ushr (n : Nat) (hn : n < 32) (x : Int32) (i : Nat) : bt ((x.toUInt32 >>> ((nI n).toUInt32 &&& Int32.toUInt32 31)).toInt32) i = bt x (n + i) := by
  show (x.toUInt32 >>> ((nI n).toUInt32 &&& Int32.toUInt32 31)).toBitVec.getLsbD i = x.toUInt32.toBitVec.getLsbD (n + i)
  rw [UInt32.toBitVec_shiftRight]
  show (x.toUInt32.toBitVec >>> (((nI n).toUInt32 &&& Int32.toUInt32 31).toBitVec % 32).toNat).getLsbD i = _
  rw [s_u n hn, BitVec.getLsbD_ushiftRight]
theorem b_sshr (n : Nat) (hn : n < 32) (x : Int32) {i : Nat} (hi : i < 32) : bt (x >>> (nI n &&& 31)) i = if n + i < 32 then bt x (n + i) else bt x 31 := by
  unfold bt
  rw [Int32.toBitVec_shiftRight]
  show (x.toBitVec.sshiftRight ((nI n &&& 31).toBitVec.smod 32).toNat).getLsbD i = _
  rw [s_l n hn, BitVec.getLsbD_sshiftRight, BitVec.msb_eq_getLsbD_last]
  simp [hi]
theorem b_shl8 (x : Int32) {i : Nat} (hi : i < 32) : bt (x <<< ((8 : Int32) &&& 31)) i = (decide (8 ≤ i) && bt x (i - 8)) := b_shl 8 (by omega) x hi
theorem bp_b (x : Int32) : x.toInt8.toInt32 &&& 255 = x &&& 255 := by
  apply Int32.toBitVec_inj.mp
  rw [Int32.toBitVec_and, Int32.toBitVec_and, Int8.toBitVec_toInt32, Int32.toBitVec_toInt8]
  apply BitVec.eq_of_getLsbD_eq
  intro i hi
  rw [BitVec.getLsbD_and, BitVec.getLsbD_and]
  have hm : ∀ i < 32, 8 ≤ i → (255 : Int32).toBitVec.getLsbD i = false := by decide
  rcases Nat.lt_or_ge i 8 with z | z
  · rw [BitVec.getLsbD_signExtend, BitVec.getLsbD_signExtend, if_pos z, if_pos hi]
    simp only [z, hi, decide_true, Bool.true_and]
  · rw [hm i hi z]; simp
theorem t_byte (x : Int32) {s : Nat} (hs : s ≤ 24) : ∃ c, c < 256 ∧ vp_nar .char (((((x.toUInt32 >>> ((nI s).toUInt32 &&& Int32.toUInt32 31)).toInt32) &&& (255 : Int32)).toUInt32 % 65536).toInt32) = nI c ∧ vp_nar .byte ((x >>> (nI s &&& 31)).toInt8.toInt32) &&& 255 = nI c := by
  have e : (x.toUInt32 >>> ((nI s).toUInt32 &&& Int32.toUInt32 31)).toInt32 &&& (255 : Int32) = (x >>> (nI s &&& 31)) &&& 255 := by
    refine b_ext (fun i hi => ?_)
    rw [b_and, b_and, b_255, b_ushr s (by omega), b_sshr s (by omega) x hi]
    by_cases q : i < 8
    · rw [if_pos (by omega)]
    · simp [q]
  obtain ⟨c, hc, ec⟩ := pk_andE (x >>> (nI s &&& 31)) (m := 255) 8 (by decide)
  refine ⟨c, hc, ?_, ?_⟩
  · rw [sc_c2, e, ec]
    have := pk_vc (nI c)
    have h2 : ((nI c).toUInt32 % 65536).toInt32 = nI c := (sb_byte c hc).2.1
    rw [h2] at this
    exact this
  · rw [pk_vb, bp_b, ec]
theorem c_four (x : Int32) : ∀ (k f n : Nat) (σ : x_Hp), n + k ≤ 2000 → k ≤ 4 → k < f → σ.1 14 1 = nI n → ∃ τ, F_X4_addFour_3 f x (nI (8 * k) - 8) σ = some ((), τ) ∧ τ.1 14 1 = nI (n + k) ∧ (∀ j, j < k → τ.1 15 (n + j) = vp_nar .char (((((x.toUInt32 >>> ((nI (8 * (k - 1 - j))).toUInt32 &&& Int32.toUInt32 31)).toInt32) &&& (255 : Int32)).toUInt32 % 65536).toInt32)) ∧ (∀ j, j < n → τ.1 15 j = σ.1 15 j) ∧ ∀ a b, ¬ (a = 15 ∨ (a = 14 ∧ b = 1)) → τ.1 a b = σ.1 a b := by
  intro k
  induction k with
  | zero =>
    intro f n σ h1 h2 h3 h4
    obtain ⟨f, rfl⟩ : ∃ m, f = m + 1 := ⟨f - 1, by omega⟩
    refine ⟨σ, ?_, h4, fun j hj => by omega, fun _ _ => rfl, fun _ _ _ => rfl⟩
    rw [F_X4_addFour_3, if_pos (show nI (8 * 0) - 8 < 0 by decide)]
  | succ k ih =>
    intro f n σ h1 h2 h3 h4
    obtain ⟨f, rfl⟩ : ∃ m, f = m + 1 := ⟨f - 1, by omega⟩
    have e8 : nI (8 * (k + 1)) - 8 = nI (8 * k) := by rw [show (8 : Int32) = nI 8 from rfl, pk_sub (by omega)]; congr 1
    have em : nI (8 * k) + (-8 : Int32) = nI (8 * k) - 8 := (Int32.sub_eq_add_neg _ 8).symm
    rw [F_X4_addFour_3, e8, if_neg (nI_pos (by omega)), h4, if_neg (nI_pos (by omega)), if_neg (show ¬ (2000 : Int32) ≤ nI n from nI_ge (b := 2000) (by omega) (by decide)), x_gd_t (x_inb_nI (by omega) (by decide)), x_pt_s, x_pt_s, x_ix_nI (by omega), F_X4_addFour_53, em]
    generalize hw : vp_nar .char (((((x.toUInt32 >>> ((nI (8 * k)).toUInt32 &&& Int32.toUInt32 31)).toInt32) &&& (255 : Int32)).toUInt32 % 65536).toInt32) = w
    have r1 : (x_pI σ 15 n w).1 14 1 = nI n := by rw [x_pI_1, if_neg (by omega)]; exact h4
    rw [r1, nI_1]
    obtain ⟨τ, a1, a2, a3, a4, a5⟩ := ih f (n + 1) (x_pI (x_pI σ 15 n w) 14 1 (nI (n + 1))) (by omega) (by omega) (by omega) (by rw [x_pI_1, if_pos ⟨rfl, rfl⟩])
    refine ⟨τ, a1, by rw [a2]; congr 1; omega, fun j hj => ?_, fun j hj => ?_, fun a b hab => ?_⟩
    · rcases Nat.eq_zero_or_pos j with z | z
      · subst z
        rw [a4 (n + 0) (by omega), x_pI_1, if_neg (by omega), x_pI_1, if_pos ⟨rfl, rfl⟩, ← hw]; rfl
      · have := a3 (j - 1) (by omega)
        rw [show n + 1 + (j - 1) = n + j by omega, show k - 1 - (j - 1) = k + 1 - 1 - j by omega] at this
        exact this
    · rw [a4 j (by omega), x_pI_1, if_neg (by omega), x_pI_1, if_neg (by omega)]
    · rw [a5 a b hab, x_pI_1, if_neg (by omega), x_pI_1, if_neg (by omega)]
theorem y_four (x : Int32) : ∀ (k f n : Nat) (σ : x_Hp), n + k ≤ 2000 → k ≤ 4 → k < f → σ.1 0 2 = nI n → ∃ τ, F_X9_put_3 f x (nI (8 * k) - 8) σ = some ((), τ) ∧ τ.1 0 2 = nI (n + k) ∧ (∀ j, j < k → τ.1 1 (n + j) = vp_nar .byte ((x >>> (nI (8 * (k - 1 - j)) &&& 31)).toInt8.toInt32)) ∧ (∀ j, j < n → τ.1 1 j = σ.1 1 j) ∧ ∀ a b, ¬ (a = 1 ∨ (a = 0 ∧ b = 2)) → τ.1 a b = σ.1 a b := by
  intro k
  induction k with
  | zero =>
    intro f n σ h1 h2 h3 h4
    obtain ⟨f, rfl⟩ : ∃ m, f = m + 1 := ⟨f - 1, by omega⟩
    refine ⟨σ, ?_, h4, fun j hj => by omega, fun _ _ => rfl, fun _ _ _ => rfl⟩
    rw [F_X9_put_3, if_pos (show nI (8 * 0) - 8 < 0 by decide)]
  | succ k ih =>
    intro f n σ h1 h2 h3 h4
    obtain ⟨f, rfl⟩ : ∃ m, f = m + 1 := ⟨f - 1, by omega⟩
    have e8 : nI (8 * (k + 1)) - 8 = nI (8 * k) := by rw [show (8 : Int32) = nI 8 from rfl, pk_sub (by omega)]; congr 1
    have em : nI (8 * k) + (-8 : Int32) = nI (8 * k) - 8 := (Int32.sub_eq_add_neg _ 8).symm
    rw [F_X9_put_3, e8, if_neg (nI_pos (by omega)), h4, x_gd_t (x_inb_nI (by omega) (by decide)), x_pt_s, x_pt_s, x_ix_nI (by omega), em]
    generalize hw : vp_nar .byte ((x >>> (nI (8 * k) &&& 31)).toInt8.toInt32) = w
    have r1 : (x_pI σ 1 n w).1 0 2 = nI n := by rw [x_pI_1, if_neg (by omega)]; exact h4
    rw [r1, nI_1]
    obtain ⟨τ, a1, a2, a3, a4, a5⟩ := ih f (n + 1) (x_pI (x_pI σ 1 n w) 0 2 (nI (n + 1))) (by omega) (by omega) (by omega) (by rw [x_pI_1, if_pos ⟨rfl, rfl⟩])
    refine ⟨τ, a1, by rw [a2]; congr 1; omega, fun j hj => ?_, fun j hj => ?_, fun a b hab => ?_⟩
    · rcases Nat.eq_zero_or_pos j with z | z
      · subst z
        rw [a4 (n + 0) (by omega), x_pI_1, if_neg (by omega), x_pI_1, if_pos ⟨rfl, rfl⟩, ← hw]; rfl
      · have := a3 (j - 1) (by omega)
        rw [show n + 1 + (j - 1) = n + j by omega, show k - 1 - (j - 1) = k + 1 - 1 - j by omega] at this
        exact this
    · rw [a4 j (by omega), x_pI_1, if_neg (by omega), x_pI_1, if_neg (by omega)]
    · rw [a5 a b hab, x_pI_1, if_neg (by omega), x_pI_1, if_neg (by omega)]
/-- what the two tapes hold -/
def r_tp (σ μ : x_Hp) (n : Nat) : Prop := σ.1 14 1 = nI n ∧ μ.1 0 2 = nI n ∧ ∀ j, j < n → ∃ c, c < 256 ∧ σ.1 15 j = nI c ∧ μ.1 1 j &&& 255 = nI c
theorem q_four {σ μ : x_Hp} {n : Nat} (h : r_tp σ μ n) (hn : n + 4 ≤ 2000) (x : Int32) : ∃ τ ν, F_X4_addFour x σ = some ((), τ) ∧ F_X9_put x μ = some ((), ν) ∧ r_tp τ ν (n + 4) ∧ (∀ a b, ¬ (a = 15 ∨ (a = 14 ∧ b = 1)) → τ.1 a b = σ.1 a b) ∧ ∀ a b, ¬ (a = 1 ∨ (a = 0 ∧ b = 2)) → ν.1 a b = μ.1 a b := by
  obtain ⟨h1, h2, h3⟩ := h
  obtain ⟨τ, a1, a2, a3, a4, a5⟩ := c_four x 4 x_fuel n σ hn (by omega) (by decide) h1
  obtain ⟨ν, b1, b2, b3, b4, b5⟩ := y_four x 4 x_fuel n μ hn (by omega) (by decide) h2
  have e24 : nI (8 * 4) - 8 = 24 := by decide
  rw [e24] at a1 b1
  refine ⟨τ, ν, a1, b1, ⟨a2, b2, fun j hj => ?_⟩, a5, b5⟩
  by_cases q : j < n
  · rw [a4 j q, b4 j q]; exact h3 j q
  · obtain ⟨c, hc, e1, e2⟩ := t_byte x (s := 8 * (4 - 1 - (j - n))) (by omega)
    have p1 := a3 (j - n) (by omega)
    have p2 := b3 (j - n) (by omega)
    rw [show n + (j - n) = j by omega] at p1 p2
    exact ⟨c, hc, by rw [p1, e1], by rw [p2, e2]⟩
theorem t_out {σ μ τ ν : x_Hp} {K : Nat} (h : r_rel K σ μ) (hP : r_P τ ν) (h1 : ∀ a b, ¬ (a = 15 ∨ (a = 14 ∧ b = 1)) → τ.1 a b = σ.1 a b) (h2 : ∀ a b, ¬ (a = 1 ∨ (a = 0 ∧ b = 2)) → ν.1 a b = μ.1 a b) : r_rel (K + 1) τ ν := by
  obtain ⟨T, lv, N, v, ch, g1, g2, g3, g4, g5, -, g7⟩ := h
  refine ⟨T, lv, N, v, ch, ?_, (g2.ag (fun a b p q => h1 a b (by omega)) (h2 _ _ (by omega)) (fun b => h2 _ _ (by omega))).mono (by omega), by omega, (g4.ag (fun a b p => h1 a b (by omega)) (fun a b p => h2 a b (by omega))).mono (by omega), g5.ag (fun a b p => h1 a b (by omega)) (fun a b p => h2 a b (by omega)), hP, g7.ag (fun a b p q => h1 a b (by omega))⟩
  obtain ⟨a1, a2, a3, a4, a5, a6⟩ := g1
  refine ⟨a1.ag (fun a b q => h1 a b (by omega)), a2.agt ⟨h2 _ _ (by omega), fun a b p q => h2 a b (by omega)⟩, a3, ?_, a5.mono (by omega), fun k hk => by rw [h2 _ _ (by omega)]; exact a6 k hk⟩
  rw [← a4]
  exact gS_ag 35 (fun b => h1 _ _ (by omega)) (fun b => h1 _ _ (by omega))
theorem d_feed {K : Nat} {σ μ : x_Hp} (h : r_rel K σ μ) (x1 x2 x3 x4 x5 : Int32) : r_call (K + 1) (F_X8_feed x1 x2 x3 x4 x5 σ) (F_X9_feed x1 x2 x3 x4 x5 μ) := by
  obtain ⟨⟨n, n1, n2, n3, n4, n5⟩, n6⟩ := (show r_P σ μ by obtain ⟨_, _, _, _, _, _, _, _, _, _, q, _⟩ := h; exact q)
  have e20 : nI n + 20 = nI (n + 20) := nI_add n 20
  rw [F_X8_feed, F_X4_addBytes, F_X9_feed, n2, n3, e20]
  by_cases q : n + 20 ≤ 2000
  · have q' : nI (n + 20) ≤ 2000 := nI_le (b := 2000) q (by decide)
    have hn : ∀ (τ ν : x_Hp) (k : Nat), r_tp τ ν k → r_tp τ ν k := fun _ _ _ z => z
    obtain ⟨τ1, ν1, a1, b1, t1, f1, g1⟩ := q_four (show r_tp σ μ n from ⟨n2, n3, n5⟩) (by omega) x1
    obtain ⟨τ2, ν2, a2, b2, t2, f2, g2⟩ := q_four t1 (by omega) x2
    obtain ⟨τ3, ν3, a3, b3, t3, f3, g3⟩ := q_four t2 (by omega) x3
    obtain ⟨τ4, ν4, a4, b4, t4, f4, g4⟩ := q_four t3 (by omega) x4
    obtain ⟨τ5, ν5, a5, b5, t5, f5, g5⟩ := q_four t4 (by omega) x5
    have ff : ∀ a b, ¬ (a = 15 ∨ (a = 14 ∧ b = 1)) → τ5.1 a b = σ.1 a b := fun a b z => by rw [f5 a b z, f4 a b z, f3 a b z, f2 a b z, f1 a b z]
    have gg : ∀ a b, ¬ (a = 1 ∨ (a = 0 ∧ b = 2)) → ν5.1 a b = μ.1 a b := fun a b z => by rw [g5 a b z, g4 a b z, g3 a b z, g2 a b z, g1 a b z]
    rw [if_pos q', if_pos q', a1, x_b_s, a2, x_b_s, a3, x_b_s, a4, x_b_s, a5, x_b_s, x_b_s, b1, x_b_s, b2, x_b_s, b3, x_b_s, b4, x_b_s, b5, x_b_s, t5.1, t5.2.1]
    exact ⟨_, τ5, ν5, rfl, rfl, t_out h ⟨⟨n + 4 + 4 + 4 + 4 + 4, by omega, t5.1, t5.2.1, by rw [ff _ _ (by omega), gg _ _ (by omega)]; exact n4, t5.2.2⟩, by rw [ff _ _ (by omega)]; exact n6⟩ ff gg⟩
  · have q' : ¬ nI (n + 20) ≤ 2000 := nI_ge (b := n + 20) (a := 2000) (by omega) (by omega)
    rw [if_neg q', if_neg q', x_b_s]
    exact h.same _
theorem d_back {K : Nat} {σ μ : x_Hp} (h : r_rel K σ μ) (x : Int32) : r_call (K + 1) (F_X8_back x σ) (F_X9_back x μ) := by
  obtain ⟨⟨n, n1, n2, n3, n4, n5⟩, n6⟩ := (show r_P σ μ by obtain ⟨_, _, _, _, _, _, _, _, _, _, q, _⟩ := h; exact q)
  rw [F_X8_back, F_X4_dropBytes, F_X9_back, n2, n3]
  by_cases q : x < 0
  · rw [if_pos q, if_pos q, x_b_s]; exact h.same _
  · obtain ⟨j, hj, rfl⟩ := nI_of q
    rw [if_neg q, if_neg q]
    by_cases q2 : j ≤ n
    · have e : nI j ≤ nI n := nI_le q2 (by omega)
      rw [if_pos e, if_pos e, x_pt_s, x_pt_s, x_b_s, pk_sub q2, x_pI_1, if_pos ⟨rfl, rfl⟩, x_pI_1, if_pos ⟨rfl, rfl⟩]
      refine ⟨_, _, _, rfl, rfl, t_out h ⟨⟨n - j, by omega, by rw [x_pI_1, if_pos ⟨rfl, rfl⟩], by rw [x_pI_1, if_pos ⟨rfl, rfl⟩], by rw [x_pI_1, if_neg (by omega), x_pI_1, if_neg (by omega)]; exact n4, fun i hi => ?_⟩, by rw [x_pI_1, if_neg (by omega)]; exact n6⟩ (fun a b z => by rw [x_pI_1, if_neg (by omega)]) (fun a b z => by rw [x_pI_1, if_neg (by omega)])⟩
      rw [x_pI_1, if_neg (by omega), x_pI_1, if_neg (by omega)]
      exact n5 i (by omega)
    · have e : ¬ nI j ≤ nI n := nI_ge (by omega) hj
      rw [if_neg e, if_neg e, x_b_s]; exact h.same _
