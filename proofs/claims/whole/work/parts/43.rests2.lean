/-! LETTING GO -/
def m_two (set a m : Nat) : Nat := if ((nI set >>> (nI a &&& 31)) &&& (1 : Int32)) = (1 : Int32) then 2 * m else m
theorem m_two_le {set a m : Nat} (h : m ≤ 10) : m_two set a m ≤ 20 := by
  rw [m_two]; split <;> omega
def m_seq (T : x_TT) (N w set m : Nat) (v : x_V) : Nat → x_V
  | 0 => v
  | i + 1 => m_keep T (m_seq T N w set m v i) (nI ((w + i) % N)) (m_two set ((w + i) % N) m)
theorem md_ne {N w i k : Nat} (hN : N ≤ 6) (hi : i < N) (hk : k < N) (h : i ≠ k) : (w + i) % N ≠ (w + k) % N := by
  have hc : N = 1 ∨ N = 2 ∨ N = 3 ∨ N = 4 ∨ N = 5 ∨ N = 6 := by omega
  rcases hc with rfl | rfl | rfl | rfl | rfl | rfl <;> omega
theorem md_on {N w b : Nat} (hN : N ≤ 6) (hw : w < N) (hb : b < N) : ∃ k, k < N ∧ (w + k) % N = b := by
  refine ⟨(b + N - w) % N, Nat.mod_lt _ (by omega), ?_⟩
  have hc : N = 1 ∨ N = 2 ∨ N = 3 ∨ N = 4 ∨ N = 5 ∨ N = 6 := by omega
  rcases hc with rfl | rfl | rfl | rfl | rfl | rfl <;> omega
section S1
variable {T : x_TT} {lv N t : Nat} {v : x_V}
theorem seq_un {w set m q : Nat} (hN : N ≤ 6) (hq : q < 7) {k : Nat} (hk : k < N) : ∀ i, i ≤ k → m_tal (m_seq T N w set m v i) (nI ((w + k) % N)) (nI q) = m_tal v (nI ((w + k) % N)) (nI q) := by
  intro i
  induction i with
  | zero => intro _; rfl
  | succ i ih =>
    intro hi
    have hl : ∀ j, (w + j) % N < 6 := fun j => by have := Nat.mod_lt (w + j) (show 0 < N by omega); omega
    rw [m_seq, m_keep_tal (hl i) (hl k) (md_ne hN hk (by omega) (by omega)) hq, ih (by omega)]
theorem seq_af {w set m q : Nat} (hN : N ≤ 6) (hq : q < 7) {k : Nat} (hk : k < N) : ∀ d, k + 1 + d ≤ N → m_tal (m_seq T N w set m v (k + 1 + d)) (nI ((w + k) % N)) (nI q) = m_tal (m_seq T N w set m v (k + 1)) (nI ((w + k) % N)) (nI q) := by
  intro d
  induction d with
  | zero => intro _; rfl
  | succ d ih =>
    intro hd
    have hl : ∀ j, (w + j) % N < 6 := fun j => by have := Nat.mod_lt (w + j) (show 0 < N by omega); omega
    rw [show k + 1 + (d + 1) = (k + 1 + d) + 1 by omega, m_seq, m_keep_tal (hl _) (hl k) (md_ne hN hk (by omega) (by omega)) hq, ih (by omega)]
/-- how much oftener it laughs with her, all gone through -/
def m_lau (T : x_TT) (N w set m : Nat) (v : x_V) (b : Nat) : Int32 := m_tal (m_seq T N w set m v N) (nI b) 2 - m_tal v (nI b) 2
theorem m_lau_at {w set m : Nat} (hN : N ≤ 6) {k : Nat} (hk : k < N) : m_lau T N w set m v ((w + k) % N) = m_tal (m_seq T N w set m v (k + 1)) (nI ((w + k) % N)) 2 - m_tal v (nI ((w + k) % N)) 2 ∧ m_lau T N w set m v ((w + k) % N) = m_kc T (m_seq T N w set m v k) ((w + k) % N) (m_two set ((w + k) % N) m) 2 := by
  have e := seq_af (T := T) (v := v) (w := w) (set := set) (m := m) (q := 2) hN (by decide) hk (N - (k + 1)) (by omega)
  rw [show k + 1 + (N - (k + 1)) = N by omega, show nI 2 = (2 : Int32) from rfl] at e
  have e0 := seq_un (T := T) (v := v) (w := w) (set := set) (m := m) (q := 2) hN (by decide) hk k (Nat.le_refl _)
  rw [show nI 2 = (2 : Int32) from rfl] at e0
  refine ⟨by rw [m_lau, e], ?_⟩
  rw [m_lau, e, m_kc, e0]; rfl
theorem x_hp_putO (σ : x_Hp) (v : x_V) (c : x_Sc) {a b : Nat} (h1 : a ≠ 37) (h2 : a ≠ 38) (h3 : a ≠ 13) (h4 : a ≠ 8) (x : Int32) : x_pI (x_hp σ 37 v c) a b x = x_hp (x_pI σ a b x) 37 v c := by
  refine x_ext (fun i j => ?_) rfl
  rw [x_pI_1]
  by_cases e : i = a ∧ j = b
  · obtain ⟨rfl, rfl⟩ := e
    rw [if_pos ⟨rfl, rfl⟩, x_hp_oth _ _ _ _ _ h1 h2 h3 h4, x_pI_1, if_pos ⟨rfl, rfl⟩]
  · rw [if_neg e]
    simp only [x_hp]
    rw [x_pI_1, if_neg e]
theorem c_laugh_loop {w set m : Nat} (hw : w < N) (hset : set < 64) (hm : m ≤ 10) : ∀ (d f i : Nat) (σ : x_Hp) (c : x_Sc), x_Tx σ T → T.1 1 7 = nI N → N ≤ 6 → x_gS σ 35 = v → i + d = N → d < f → (∀ k, k < i → σ.1 168 (6 * set + (w + k) % N) = m_lau T N w set m v ((w + k) % N)) → ∃ τ c2, F_X8_laughInSet_22 f (nI set) (nI m) (nI ((w + i) % N)) (nI i) (x_hp σ 37 (m_seq T N w set m v i) c) = some ((), x_hp τ 37 (m_seq T N w set m v N) c2) ∧ x_sm σ τ ∧ (∀ b, b < N → τ.1 168 (6 * set + b) = m_lau T N w set m v b) ∧ (∀ j, (j < 6 * set ∨ 6 * set + 6 ≤ j) → τ.1 168 j = σ.1 168 j) ∧ ∀ b, τ.1 167 b = σ.1 167 b := by
  intro d
  induction d with
  | zero =>
    intro f i σ c hT h7 h6 h35 h1 h2 h3
    obtain ⟨f, rfl⟩ : ∃ m, f = m + 1 := ⟨f - 1, by omega⟩
    have : i = N := by omega
    subst this
    refine ⟨σ, c, ?_, x_sm.rf _, ?_, fun _ _ => rfl, fun _ => rfl⟩
    · rw [F_X8_laughInSet_22, x_tx1 x_St37 hT, h7, if_pos (nI_le (Nat.le_refl _) (by omega))]
    · intro b hb
      obtain ⟨k, hk, rfl⟩ := md_on h6 hw hb
      exact h3 k hk
  | succ d ih =>
    intro f i σ c hT h7 h6 h35 h1 h2 h3
    obtain ⟨f, rfl⟩ : ∃ m, f = m + 1 := ⟨f - 1, by omega⟩
    have ha : (w + i) % N < N := Nat.mod_lt _ (by omega)
    generalize hae : (w + i) % N = a at ha
    have mt : m_two set a m ≤ 20 := m_two_le hm
    obtain ⟨c2, g⟩ := e_keep x_St37 hT (m_seq T N w set m v i) c (nI a) (m := m_two set a m) mt
    have sq : m_seq T N w set m v (i + 1) = m_keep T (m_seq T N w set m v i) (nI a) (m_two set a m) := by rw [m_seq, hae]
    rw [← sq] at g
    have ix : nI set * (6 : Int32) + nI a = nI (6 * set + a) := by
      rw [show nI set * (6 : Int32) = nI (set * 6) from pk_mul set 6, nI_add]; congr 1; omega
    have h37 : ∀ ρ : x_Hp, x_gS ρ 35 = v → x_gS (x_hp ρ 37 (m_seq T N w set m v (i + 1)) c2) 35 = v := fun ρ hρ => by rw [x_gS_hp]; exact hρ
    have val : m_tal (m_seq T N w set m v (i + 1)) (nI a) 2 - m_tal v (nI a) 2 = m_lau T N w set m v a := by
      have := (m_lau_at (T := T) (v := v) (w := w) (set := set) (m := m) h6 (k := i) (by omega)).1
      rw [hae] at this
      exact this.symm
    have go : F_X8_laughInSet_59 (F_X8_laughInSet_22 f) (nI set) (nI m) (nI a) (nI i) (nI (m_two set a m)) (nI a) (x_hp σ 37 (m_seq T N w set m v i) c) = F_X8_laughInSet_22 f (nI set) (nI m) (nI ((w + (i + 1)) % N)) (nI (i + 1)) (x_hp (x_pI σ 168 (6 * set + a) (m_lau T N w set m v a)) 37 (m_seq T N w set m v (i + 1)) c2) := by
      have hT2 : x_Tx (x_pI σ 168 (6 * set + a) (m_lau T N w set m v a)) T := hT.ag (fun i j h => by rw [x_pI_1, if_neg (by omega)])
      have eb : m_beh T (nI a) = nI ((w + (i + 1)) % N) := by
        rw [m_beh_nI h7 ha h6, ← hae, Nat.mod_add_mod]; rfl
      rw [F_X8_laughInSet_59, g, x_b_s, e_tallied x_St37, x_b_s, k_tal35 (h37 σ h35), x_b_s, ix, e_put, x_b_s, x_pT_nI _ _ (by rw [lnX_168]; omega), x_hp_putO _ _ _ (by decide) (by decide) (by decide) (by decide), val, e_beh x_St37 hT2, x_b_s, eb, nI_1]
    have step : F_X8_laughInSet_22 (f + 1) (nI set) (nI m) (nI a) (nI i) (x_hp σ 37 (m_seq T N w set m v i) c) = F_X8_laughInSet_59 (F_X8_laughInSet_22 f) (nI set) (nI m) (nI a) (nI i) (nI (m_two set a m)) (nI a) (x_hp σ 37 (m_seq T N w set m v i) c) := by
      rw [F_X8_laughInSet_22, x_tx1 x_St37 hT, h7, if_neg (nI_ge (by omega) (by omega)), m_two]
      split
      · rw [show (2 : Int32) * nI m = nI (2 * m) from pk_mul 2 m]
      · rfl
    rw [step, go]
    have sp : x_sm σ (x_pI σ 168 (6 * set + a) (m_lau T N w set m v a)) := x_sm.put (by unfold x_Sb; omega) _
    obtain ⟨τ, c3, q1, q2, q3, q4, q5⟩ := ih f (i + 1) (x_pI σ 168 (6 * set + a) (m_lau T N w set m v a)) c2 (hT.ag (fun i j h => by rw [x_pI_1, if_neg (by omega)])) h7 h6 (by rw [sp.gS]; exact h35) (by omega) (by omega) (by
      intro k hk
      rw [x_pI_1]
      by_cases e : k = i
      · subst e
        rw [hae, if_pos ⟨rfl, rfl⟩]
      · have := md_ne (w := w) h6 (i := k) (k := i) (by omega) (by omega) e
        rw [if_neg (by omega)]
        exact h3 k (by omega))
    refine ⟨τ, c3, q1, sp.tr q2, q3, fun j hj => ?_, fun b => ?_⟩
    · rw [q4 j hj, x_pI_1, if_neg (by omega)]
    · rw [q5, x_pI_1, if_neg (by omega)]
theorem y_laugh_loop {μ : x_Hp} {w set m : Nat} (hw : w < N) (hm : m ≤ 10) (hB : m_TB T N) (h9 : μ.1 31 4 = nI w) (K : Int32 → Int32 → Int32 → x_Hp → Option (Unit × x_Hp)) : ∀ (d f i : Nat) (ν : x_Hp) (e : y_Sc), y_Tx ν T lv N → y_sm μ ν → ν.1 0 51 = -1 → y_G ν T N (m_seq T N w set m v i) → m_seq T N w set m v i 13 = nI 0 → i + d = N → d < f → (∀ k, k < i → ν.1 36 ((w + k) % N) = m_lau T N w set m v ((w + k) % N)) → ∃ ν2 e2, F_X9_fillsRests_26 K f (nI m) (nI N) (nI set) (nI i) (z_hp ν (m_seq T N w set m v i) e) = F_X9_fillsRests_77 K x_fuel (nI m) (nI N) (nI set) (nI 0) (z_hp ν2 (m_seq T N w set m v N) e2) ∧ y_sm μ ν2 ∧ (∀ b, b < N → ν2.1 36 b = m_lau T N w set m v b) ∧ ∀ j, ν2.1 40 j = ν.1 40 j := by
  intro d
  induction d with
  | zero =>
    intro f i ν e hT sy h51 hG h13 h1 h2 h3
    obtain ⟨f, rfl⟩ : ∃ m, f = m + 1 := ⟨f - 1, by omega⟩
    have : i = N := by omega
    subst this
    refine ⟨ν, e, ?_, sy, ?_, fun _ => rfl⟩
    · rw [F_X9_fillsRests_26, if_pos (nI_le (Nat.le_refl _) (by have := hT.2.1; omega))]; rfl
    · intro b hb
      obtain ⟨k, hk, rfl⟩ := md_on hT.2.1 hw hb
      exact h3 k hk
  | succ d ih =>
    intro f i ν e hT sy h51 hG h13 h1 h2 h3
    obtain ⟨f, rfl⟩ : ∃ m, f = m + 1 := ⟨f - 1, by omega⟩
    have h6 := hT.2.1
    have ha : (w + i) % N < N := Nat.mod_lt _ (by omega)
    generalize hae : (w + i) % N = a at ha
    have mt : m_two set a m ≤ 20 := m_two_le hm
    obtain ⟨d2, k, k13, kG⟩ := y_give hT hB h51 hG h13 e (a := a) (m := m_two set a m) ha mt
    have sq : m_seq T N w set m v (i + 1) = m_keep T (m_seq T N w set m v i) (nI a) (m_two set a m) := by rw [m_seq, hae]
    rw [← sq] at k k13 kG
    have hd : (!decide (nI N = 0)) = true := by
      have := nI_ne0 (n := N) (by omega) (by omega)
      simpa using this
    have h4 : ∀ u : x_V, ∀ q : y_Sc, (z_hp ν u q).1 31 4 = nI w := fun u q => by rw [z_31, sy 31 4 (by unfold y_Sb; omega)]; exact h9
    have step : F_X9_fillsRests_26 K (f + 1) (nI m) (nI N) (nI set) (nI i) (z_hp ν (m_seq T N w set m v i) e) = F_X9_fillsRests_26 K f (nI m) (nI N) (nI set) (nI (i + 1)) (z_hp (y_g1 T ν (m_seq T N w set m v i) a (m_two set a m)) (m_seq T N w set m v (i + 1)) d2) := by
      rw [F_X9_fillsRests_26, if_neg (nI_ge (by omega) (by omega)), x_gd_t hd, h4, nI_add, pk_rem (by omega) (by omega) (by omega), hae]
      have e2 : m_two set a m = if ((nI set >>> (nI a &&& 31)) &&& (1 : Int32)) = (1 : Int32) then 2 * m else m := rfl
      split
      · rename_i hq
        rw [if_pos hq] at e2
        rw [show (2 : Int32) * nI m = nI (2 * m) from pk_mul 2 m, ← e2, F_X9_fillsRests_65, k, x_b_s, nI_1]
      · rename_i hq
        rw [if_neg hq] at e2
        rw [F_X9_fillsRests_65]
        have : nI m = nI (m_two set a m) := by rw [e2]
        conv => lhs; arg 1; rw [this]
        rw [k, x_b_s, nI_1]
    rw [step]
    obtain ⟨ν2, e2, q1, q2, q3, q4⟩ := ih f (i + 1) (y_g1 T ν (m_seq T N w set m v i) a (m_two set a m)) d2 (hT.agr (y_wr_agr _ _ _ _ _)) (sy.tr (y_wr_sm _ _ _ _ _)) (by rw [y_g1, y_wr_o _ _ _ _ _ (by omega) (by omega) (by omega)]; exact h51) kG k13 (by omega) (by omega) (by
      intro k' hk
      rw [y_g1, y_wr_36]
      by_cases e : k' = i
      · subst e
        rw [hae, if_pos rfl]
        have := (m_lau_at (T := T) (v := v) (w := w) (set := set) (m := m) h6 (k := k') (by omega)).2
        rw [hae] at this
        exact this.symm
      · have := md_ne (w := w) h6 (i := k') (k := i) (by omega) (by omega) e
        rw [if_neg (by omega)]
        exact h3 k' (by omega))
    refine ⟨ν2, e2, q1, q2, q3, fun j => ?_⟩
    rw [q4, y_g1, y_wr_o _ _ _ _ _ (by omega) (by omega) (by omega)]
end S1
section S2
variable {T : x_TT} {lv N t : Nat} {v : x_V}
theorem y_laugh_copy {m set : Nat} (hN : N ≤ 6) (hset : set < 64) (K : Int32 → Int32 → Int32 → x_Hp → Option (Unit × x_Hp)) : ∀ (d f i : Nat) (ν : x_Hp), i + d = N → d < f → ∃ ν2, F_X9_fillsRests_77 K f (nI m) (nI N) (nI set) (nI i) ν = K (nI m) (nI N) (nI (set + 1)) ν2 ∧ y_sm ν ν2 ∧ (∀ b, i ≤ b → b < N → ν2.1 40 (6 * set + b) = ν.1 36 b) ∧ ∀ j, (j < 6 * set + i ∨ 6 * set + 6 ≤ j) → ν2.1 40 j = ν.1 40 j := by
  intro d
  induction d with
  | zero =>
    intro f i ν h1 h2
    obtain ⟨f, rfl⟩ : ∃ m, f = m + 1 := ⟨f - 1, by omega⟩
    have : i = N := by omega
    subst this
    refine ⟨ν, ?_, y_sm.rf _, fun b h1 h2 => by omega, fun _ _ => rfl⟩
    rw [F_X9_fillsRests_77, if_pos (nI_le (Nat.le_refl _) (by omega)), nI_1]
  | succ d ih =>
    intro f i ν h1 h2
    obtain ⟨f, rfl⟩ : ∃ m, f = m + 1 := ⟨f - 1, by omega⟩
    have ix : (6 : Int32) * nI set + nI i = nI (6 * set + i) := by rw [show (6 : Int32) * nI set = nI (6 * set) from pk_mul 6 set, nI_add]
    rw [F_X9_fillsRests_77, if_neg (nI_ge (by omega) (by omega)), x_gd_t (x_inb_nI (by omega) (by decide)), ix, x_gd_t (x_inb_nI (by omega) (by decide)), x_pt_s, x_ix_nI (by omega), x_ix_nI (by omega), nI_1]
    obtain ⟨ν2, q1, q2, q3, q4⟩ := ih f (i + 1) (x_pI ν 40 (6 * set + i) (ν.1 36 i)) (by omega) (by omega)
    refine ⟨ν2, q1, (y_sm.put (by unfold y_Sb; omega) _).tr q2, fun b hb1 hb2 => ?_, fun j hj => ?_⟩
    · by_cases e : b = i
      · subst e
        rw [q4 _ (by omega), x_pI_1, if_pos ⟨rfl, rfl⟩]
      · rw [q3 b (by omega) hb2, x_pI_1, if_neg (by omega)]
    · rw [q4 j (by omega), x_pI_1, if_neg (by omega)]
theorem x_p2 {N : Nat} (hN : N ≤ 6) : ((1 : Int32) <<< (nI N &&& 31)) = nI (2 ^ N) ∧ 2 ^ N ≤ 64 := by
  have hc : N = 0 ∨ N = 1 ∨ N = 2 ∨ N = 3 ∨ N = 4 ∨ N = 5 ∨ N = 6 := by omega
  rcases hc with rfl | rfl | rfl | rfl | rfl | rfl | rfl <;> decide
theorem x_xor6 : ∀ s, s < 64 → ∀ a, a < 6 → nI s ^^^ ((1 : Int32) <<< (nI a &&& 31)) = nI (s ^^^ 2 ^ a) := by decide +kernel
/-- all sets gone through by the class -/
theorem c_laughs {w m : Nat} (hw : w < N) (hm : m ≤ 10) (x2 : Int32) : ∀ (d f i : Nat) (σ μ : x_Hp), r_V σ μ T lv N t v → v 9 = nI w → i + d = 2 ^ N → d < f → (∀ s b, s < i → b < N → σ.1 168 (6 * s + b) = m_lau T N w s m v b) → ∃ τ, F_X8_rests_40 f (nI m) x2 (nI (2 ^ N)) (nI i) σ = F_X8_rests_65 x_fuel x2 (nI (2 ^ N)) 0 0 τ ∧ x_sm σ τ ∧ ∀ s b, s < 2 ^ N → b < N → τ.1 168 (6 * s + b) = m_lau T N w s m v b := by
  intro d
  induction d with
  | zero =>
    intro f i σ μ h h9 h1 h2 h3
    obtain ⟨f, rfl⟩ : ∃ m, f = m + 1 := ⟨f - 1, by omega⟩
    have : i = 2 ^ N := by omega
    subst this
    refine ⟨σ, ?_, x_sm.rf _, h3⟩
    rw [F_X8_rests_40, if_pos (nI_le (Nat.le_refl _) (by have := (x_p2 h.n.2.1).2; omega))]
  | succ d ih =>
    intro f i σ μ h h9 h1 h2 h3
    obtain ⟨f, rfl⟩ : ∃ m, f = m + 1 := ⟨f - 1, by omega⟩
    obtain ⟨n1, n6, n7⟩ := h.n
    have p64 := (x_p2 n6).2
    obtain ⟨τ, c2, q1, q2, q3, q4, -⟩ := c_laugh_loop (T := T) (N := N) (v := v) (w := w) (set := i) (m := m) hw (by omega) hm N x_fuel 0 σ (x_sc σ) h.1 n7 n6 h.2.2.2.1 (by omega) (by rw [x_fuel]; omega) (fun k hk => absurd hk (Nat.not_lt_zero _))
    have e9 : (x_hp σ 37 v (x_sc σ)).1 35 9 = nI w := by rw [x_hp_oth _ _ _ _ _ (by decide) (by decide) (by decide) (by decide), h.g (by decide), h9]
    have q1' : F_X8_laughInSet_22 x_fuel (nI i) (nI m) (nI w) 0 (x_hp σ 37 v (x_sc σ)) = some ((), x_hp τ 37 (m_seq T N w i m v N) c2) := by
      have e0 : (w + 0) % N = w := Nat.mod_eq_of_lt hw
      rw [e0] at q1
      exact q1
    have sx : x_sm σ (x_hp τ 37 (m_seq T N w i m v N) c2) := q2.tr (x_sm.hp _ _ _)
    have r168 : ∀ j, (x_hp τ 37 (m_seq T N w i m v N) c2).1 168 j = τ.1 168 j := fun j => x_hp_oth _ _ _ _ _ (by decide) (by decide) (by decide) (by decide)
    rw [F_X8_rests_40, if_neg (nI_ge (by omega) (by omega)), F_X8_laughInSet, k_take h, x_b_s, e9, q1', x_b_s, nI_1]
    obtain ⟨τ2, g1, g2, g3⟩ := ih f (i + 1) (x_hp τ 37 (m_seq T N w i m v N) c2) μ (h.sm sx (y_sm.rf μ)) h9 (by omega) (by omega) (by
      intro s b hs hb
      rw [r168]
      by_cases e : s = i
      · subst e; exact q3 b hb
      · rw [q4 _ (by omega)]; exact h3 s b (by omega) hb)
    exact ⟨τ2, g1, sx.tr g2, g3⟩
/-- and by the reference -/
theorem y_laughs {w m : Nat} (hw : w < N) (hm : m ≤ 10) : ∀ (d f i : Nat) (σ μ : x_Hp), r_V σ μ T lv N t v → v 9 = nI w → v 13 = nI 0 → i + d = 2 ^ N → d < f → (∀ s b, s < i → b < N → μ.1 40 (6 * s + b) = m_lau T N w s m v b) → ∃ ν, F_X9_fillsRests_12 f (nI m) (nI N) (nI i) μ = some ((), ν) ∧ y_sm μ ν ∧ ∀ s b, s < 2 ^ N → b < N → ν.1 40 (6 * s + b) = m_lau T N w s m v b := by
  intro d
  induction d with
  | zero =>
    intro f i σ μ h h9 h13 h1 h2 h3
    obtain ⟨f, rfl⟩ : ∃ m, f = m + 1 := ⟨f - 1, by omega⟩
    have : i = 2 ^ N := by omega
    subst this
    refine ⟨μ, ?_, y_sm.rf _, h3⟩
    rw [F_X9_fillsRests_12, (x_p2 h.n.2.1).1, if_pos (nI_le (Nat.le_refl _) (by have := (x_p2 h.n.2.1).2; omega))]
  | succ d ih =>
    intro f i σ μ h h9 h13 h1 h2 h3
    obtain ⟨f, rfl⟩ : ∃ m, f = m + 1 := ⟨f - 1, by omega⟩
    obtain ⟨n1, n6, n7⟩ := h.n
    obtain ⟨p2, p64⟩ := x_p2 n6
    have m4 : μ.1 31 4 = nI w := by rw [h.m (k := 4) 9 rfl (by decide) (by decide), h9]
    obtain ⟨ν2, e2, g1, g2, g3, g4⟩ := y_laugh_loop (T := T) (lv := lv) (N := N) (v := v) (set := i) (m := m) hw hm h.2.2.1 m4 (F_X9_fillsRests_12 f) N x_fuel 0 (y_s0 μ lv) (y_sc μ) (s0_T h) (y_s0.sm μ lv) (y_s0_51 μ lv) (s0_G h (by omega)) h13 (by omega) (by rw [x_fuel]; omega) (fun k hk => absurd hk (Nat.not_lt_zero _))
    obtain ⟨ν3, k1, k2, k3, k4⟩ := y_laugh_copy (m := m) (set := i) n6 (by omega) (F_X9_fillsRests_12 f) N x_fuel 0 (z_hp ν2 (m_seq T N w i m v N) e2) (by omega) (by rw [x_fuel]; omega)
    have hz : ∀ a b, (a = 36) → (z_hp ν2 (m_seq T N w i m v N) e2).1 a b = ν2.1 a b := fun a b ha => z_oth _ _ _ _ (by omega) (by omega) (by omega) (by omega) (Or.inl (by omega))
    have hz4 : ∀ b, (z_hp ν2 (m_seq T N w i m v N) e2).1 40 b = ν2.1 40 b := fun b => z_oth _ _ _ _ (by omega) (by omega) (by omega) (by omega) (Or.inl (by omega))
    have sy : y_sm μ ν3 := (g2.tr (y_sm.hp _ _ _)).tr k2
    have g1' : F_X9_fillsRests_26 (F_X9_fillsRests_12 f) x_fuel (nI m) (nI N) (nI i) 0 (z_hp (y_s0 μ lv) v (y_sc μ)) = F_X9_fillsRests_12 f (nI m) (nI N) (nI (i + 1)) ν3 := by
      have : F_X9_fillsRests_26 (F_X9_fillsRests_12 f) x_fuel (nI m) (nI N) (nI i) (nI 0) (z_hp (y_s0 μ lv) v (y_sc μ)) = _ := g1
      rw [show (0 : Int32) = nI 0 from rfl, this, k1]
    rw [F_X9_fillsRests_12, p2, if_neg (nI_ge (by omega) (by omega)), z_starts h, x_b_s, g1']
    obtain ⟨ν4, j1, j2, j3⟩ := ih f (i + 1) σ ν3 (h.sm (x_sm.rf σ) sy) h9 h13 (by omega) (by omega) (by
      intro s b hs hb
      by_cases e : s = i
      · subst e
        rw [k3 b (by omega) hb, hz 36 b rfl, g3 b hb]
      · rw [k4 _ (by omega), hz4, g4, y_s0_o _ _ (by omega), show (y_m0 μ lv).1 40 (6 * s + b) = μ.1 40 (6 * s + b) from y_set_o _ _ _ _ (by omega)]
        exact h3 s b (by omega) hb)
    exact ⟨ν4, j1, sy.tr j2, j3⟩
theorem q_atRest {σ μ : x_Hp} (h : r_V σ μ T lv N t v) (hL : ∀ s b, s < 2 ^ N → b < N → σ.1 168 (6 * s + b) = μ.1 40 (6 * s + b)) {s : Nat} (hs : s < 2 ^ N) : ∀ (d f f' i : Nat), i + d = N → d < f → d < f' → ∃ r : Int32, F_X8_isAtRest_2 f (nI s) (nI i) σ = some (r, σ) ∧ F_X9_isResting_2 f' (nI s) (nI i) μ = some (r, μ) := by
  obtain ⟨n1, n6, n7⟩ := h.n
  obtain ⟨hlv, y18, y10⟩ := h.y18
  have p64 := (x_p2 n6).2
  intro d
  induction d with
  | zero =>
    intro f f' i h1 h2 h3
    obtain ⟨f, rfl⟩ : ∃ m, f = m + 1 := ⟨f - 1, by omega⟩
    obtain ⟨f', rfl⟩ : ∃ m, f' = m + 1 := ⟨f' - 1, by omega⟩
    have : i = N := by omega
    subst this
    refine ⟨1, ?_, ?_⟩
    · rw [F_X8_isAtRest_2, n1, if_pos (nI_le (Nat.le_refl _) (by omega))]
    · rw [F_X9_isResting_2, y18, x_gd_t (x_inb_nI hlv (by decide)), x_ix_nI (by omega), y10, if_pos (nI_le (Nat.le_refl _) (by omega))]
  | succ d ih =>
    intro f f' i h1 h2 h3
    obtain ⟨f, rfl⟩ : ∃ m, f = m + 1 := ⟨f - 1, by omega⟩
    obtain ⟨f', rfl⟩ : ∃ m, f' = m + 1 := ⟨f' - 1, by omega⟩
    have hx : s ^^^ 2 ^ i < 2 ^ N := Nat.xor_lt_two_pow hs (Nat.pow_lt_pow_right (by decide) (by omega))
    have e1 : nI (s ^^^ 2 ^ i) * (6 : Int32) + nI i = nI (6 * (s ^^^ 2 ^ i) + i) := by
      rw [show nI (s ^^^ 2 ^ i) * (6 : Int32) = nI ((s ^^^ 2 ^ i) * 6) from pk_mul _ 6, nI_add, Nat.mul_comm]
    have e2 : nI s * (6 : Int32) + nI i = nI (6 * s + i) := by
      rw [show nI s * (6 : Int32) = nI (s * 6) from pk_mul _ 6, nI_add, Nat.mul_comm]
    have e3 : (6 : Int32) * nI (s ^^^ 2 ^ i) + nI i = nI (6 * (s ^^^ 2 ^ i) + i) := by
      rw [show (6 : Int32) * nI (s ^^^ 2 ^ i) = nI (6 * (s ^^^ 2 ^ i)) from pk_mul 6 _, nI_add]
    have e4 : (6 : Int32) * nI s + nI i = nI (6 * s + i) := by
      rw [show (6 : Int32) * nI s = nI (6 * s) from pk_mul 6 _, nI_add]
    rw [F_X8_isAtRest_2, n1, if_neg (nI_ge (by omega) (by omega)), x_xor6 s (by omega) i (by omega), e1, e2, e_at, x_b_s, e_at, x_b_s, x_aT_nI _ _ (by rw [lnX_168]; omega), x_aT_nI _ _ (by rw [lnX_168]; omega), hL _ i hx (by omega), hL s i hs (by omega)]
    rw [F_X9_isResting_2, y18, x_gd_t (x_inb_nI hlv (by decide)), x_ix_nI (by omega), y10, if_neg (nI_ge (by omega) (by omega)), x_xor6 s (by omega) i (by omega), e3, e4, x_gd_t (x_inb_nI (by omega) (by decide)), x_gd_t (x_inb_nI (by omega) (by decide)), x_ix_nI (by omega), x_ix_nI (by omega), nI_1]
    split
    · exact ih f f' (i + 1) (by omega) (by omega) (by omega)
    · exact ⟨0, rfl, rfl⟩
theorem q_rests_loop {σ μ : x_Hp} (h : r_V σ μ T lv N t v) (hL : ∀ s b, s < 2 ^ N → b < N → σ.1 168 (6 * s + b) = μ.1 40 (6 * s + b)) (x2 : Int32) : ∀ (d f f' i : Nat) (n : Int32), i + d = 2 ^ N → d < f → d < f' → q_S σ μ (F_X8_rests_65 f x2 (nI (2 ^ N)) n (nI i) σ) (F_X9_rests_34 f' x2 n (nI i) μ) := by
  obtain ⟨n1, n6, n7⟩ := h.n
  obtain ⟨hlv, y18, y10⟩ := h.y18
  obtain ⟨p2, p64⟩ := x_p2 n6
  intro d
  induction d with
  | zero =>
    intro f f' i n h1 h2 h3
    obtain ⟨f, rfl⟩ : ∃ m, f = m + 1 := ⟨f - 1, by omega⟩
    obtain ⟨f', rfl⟩ : ∃ m, f' = m + 1 := ⟨f' - 1, by omega⟩
    have : i = 2 ^ N := by omega
    subst this
    rw [F_X8_rests_65, if_pos (nI_le (Nat.le_refl _) (by omega)), F_X9_rests_34, y18, x_gd_t (x_inb_nI hlv (by decide)), x_ix_nI (by omega), y10, p2, if_pos (nI_le (Nat.le_refl _) (by omega))]
    split
    · exact q_S.c _ _ _
    · exact q_S.c _ _ _
  | succ d ih =>
    intro f f' i n h1 h2 h3
    obtain ⟨f, rfl⟩ : ∃ m, f = m + 1 := ⟨f - 1, by omega⟩
    obtain ⟨f', rfl⟩ : ∃ m, f' = m + 1 := ⟨f' - 1, by omega⟩
    obtain ⟨r, g1, g2⟩ := q_atRest h hL (s := i) (by omega) N x_fuel x_fuel 0 (by omega) (by rw [x_fuel]; omega) (by rw [x_fuel]; omega)
    have g1' : F_X8_isAtRest (nI i) σ = some (r, σ) := g1
    have g2' : F_X9_isResting (nI i) μ = some (r, μ) := g2
    rw [F_X8_rests_65, if_neg (nI_ge (by omega) (by omega)), g1', x_b_s, F_X9_rests_34, y18, x_gd_t (x_inb_nI hlv (by decide)), x_ix_nI (by omega), y10, p2, if_neg (nI_ge (by omega) (by omega)), g2', x_b_s]
    by_cases hr : r = 0
    · rw [if_pos hr, if_pos hr, F_X8_rests_92, F_X9_rests_73, nI_1]
      exact ih f f' (i + 1) n (by omega) (by omega) (by omega)
    · rw [if_neg hr, if_neg hr]
      by_cases hn : n = x2
      · rw [if_pos hn, if_pos hn]; exact q_S.c _ _ _
      · rw [if_neg hn, if_neg hn, F_X8_rests_92, F_X9_rests_73, nI_1]
        exact ih f f' (i + 1) (n + 1) (by omega) (by omega) (by omega)
theorem q_rests {σ μ : x_Hp} (h : r_V σ μ T lv N t v) (x1 x2 : Int32) : q_S σ μ (F_X8_rests x1 x2 σ) (F_X9_rests x1 x2 μ) := by
  obtain ⟨n1, n6, n7⟩ := h.n
  obtain ⟨hlv, y18, y10⟩ := h.y18
  obtain ⟨p2, p64⟩ := x_p2 n6
  rw [F_X8_rests, F_X9_rests, isShort_eq]
  refine q_gb x1 1 10 rfl rfl (by decide) (by decide) ?_
  rintro m m1 m2 rfl
  by_cases hi : (-1 : Int32) ≤ x2
  · rw [if_pos hi, if_pos hi]
    refine q_gw h ?_
    intro h0 h13 hW
    obtain ⟨w, hw, h9⟩ := hW.1.1
    obtain ⟨τ, g1, g2, g3⟩ := c_laughs (T := T) (lv := lv) (N := N) (t := t) (v := v) hw m2 x2 (2 ^ N) x_fuel 0 σ μ h h9 (by omega) (by rw [x_fuel]; omega) (fun s b hs => absurd hs (Nat.not_lt_zero _))
    obtain ⟨ν, k1, k2, k3⟩ := y_laughs (T := T) (lv := lv) (N := N) (t := t) (v := v) hw m2 (2 ^ N) x_fuel 0 σ μ h h9 h13 (by omega) (by rw [x_fuel]; omega) (fun s b hs => absurd hs (Nat.not_lt_zero _))
    rw [show nI 0 = (0 : Int32) from rfl] at g1 k1
    rw [n1, p2, g1, F_X9_fillsRests, y18, x_gd_t (x_inb_nI hlv (by decide)), x_ix_nI (by omega), y10, k1, x_b_s]
    exact q_S.tr g2 k2 (q_rests_loop (h.sm g2 k2) (fun s b hs hb => by rw [g3 s b hs hb, k3 s b hs hb]) x2 (2 ^ N) x_fuel x_fuel 0 0 (by omega) (by rw [x_fuel]; omega) (by rw [x_fuel]; omega))
  · rw [if_neg hi, if_neg hi]; exact q_S.c _ _ _
end S2
