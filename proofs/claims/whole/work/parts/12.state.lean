/-! THE CLASS'S STATES: a heap in which the state s is v, the laws' pile and their mark are sc -/
def x_St (s : Nat) : Prop := x_kd TX s = 5
theorem x_St.facts {s : Nat} (h : x_St s) : 35 ≤ s ∧ s < 177 ∧ x_rf TX s 20 = s + 1 ∧ x_ln TX (s + 1) = 42 ∧ x_kd TX (s + 1) = 12 := by
  have hl : s < 177 := TX_lt h (by decide)
  have := List.all_eq_true.mp (show (List.range 177).all (fun s => decide (x_kd TX s = 5 → 35 ≤ s ∧ x_rf TX s 20 = s + 1 ∧ x_ln TX (s + 1) = 42 ∧ x_kd TX (s + 1) = 12)) = true by decide +kernel) s (List.mem_range.mpr hl)
  have h2 := of_decide_eq_true this h
  exact ⟨h2.1, hl, h2.2⟩
abbrev x_Sc : Type := (Nat → Int32) × Int32
def x_hp (σ : x_Hp) (s : Nat) (v : x_V) (c : x_Sc) : x_Hp := (fun a b => if a = s then (if b < 20 then v b else σ.1 a b) else if a = s + 1 then (if b < 42 then v (20 + b) else σ.1 a b) else if a = 13 then c.1 b else if a = 8 ∧ b = 7 then c.2 else σ.1 a b, σ.2)
def x_gS (σ : x_Hp) (s : Nat) : x_V := fun k => if k < 20 then σ.1 s k else σ.1 (s + 1) (k - 20)
def x_sc (σ : x_Hp) : x_Sc := (σ.1 13, σ.1 8 7)
theorem x_hp_of (σ : x_Hp) {s : Nat} (hs : x_St s) : σ = x_hp σ s (x_gS σ s) (x_sc σ) := by
  have h1 := hs.facts.1
  refine x_ext (fun a b => ?_) rfl
  simp only [x_hp, x_gS, x_sc]
  by_cases ha : a = s
  · subst ha
    by_cases hb : b < 20 <;> simp [hb]
  · by_cases ha2 : a = s + 1
    · subst ha2
      by_cases hb : b < 42
      · have : ¬ 20 + b < 20 := by omega
        simp [hb, this]
      · simp [hb]
    · by_cases h13 : a = 13
      · subst h13; simp [ha, ha2]
      · by_cases h8 : a = 8 ∧ b = 7
        · obtain ⟨rfl, rfl⟩ := h8; simp [ha, ha2]
        · simp [ha, ha2, h13, h8]
theorem x_hp_get (σ : x_Hp) (s : Nat) (v : x_V) (c : x_Sc) {k : Nat} (hk : k < 20) : (x_hp σ s v c).1 s k = v k := by simp [x_hp, hk]
theorem x_hp_tal (σ : x_Hp) (s : Nat) (v : x_V) (c : x_Sc) {k : Nat} (hk : k < 42) : (x_hp σ s v c).1 (s + 1) k = v (20 + k) := by simp [x_hp, hk]
theorem x_hp_oth (σ : x_Hp) (s : Nat) (v : x_V) (c : x_Sc) {a : Nat} (b : Nat) (h1 : a ≠ s) (h2 : a ≠ s + 1) (h3 : a ≠ 13) (h4 : a ≠ 8) : (x_hp σ s v c).1 a b = σ.1 a b := by simp [x_hp, h1, h2, h3, h4]
theorem x_hp_13 (σ : x_Hp) {s : Nat} (hs : x_St s) (v : x_V) (c : x_Sc) : (x_hp σ s v c).1 13 = c.1 := by
  have h1 := hs.facts.1
  funext b
  have a1 : (13 : Nat) ≠ s := by omega
  have a2 : (13 : Nat) ≠ s + 1 := by omega
  simp [x_hp, a1, a2]
theorem x_hp_8 (σ : x_Hp) {s : Nat} (hs : x_St s) (v : x_V) (c : x_Sc) : (x_hp σ s v c).1 8 7 = c.2 := by
  have h1 := hs.facts.1
  have a1 : (8 : Nat) ≠ s := by omega
  have a2 : (8 : Nat) ≠ s + 1 := by omega
  simp [x_hp, a1, a2]
theorem x_hp_put (σ : x_Hp) (s : Nat) (v : x_V) (c : x_Sc) {k : Nat} (hk : k < 20) (x : Int32) : x_pI (x_hp σ s v c) s k x = x_hp σ s (x_u v k x) c := by
  refine x_ext (fun a b => ?_) rfl
  rw [x_pI_1]
  simp only [x_hp, x_u]
  by_cases ha : a = s
  · subst ha
    by_cases hb : b = k
    · subst hb; simp [hk]
    · by_cases hb2 : b < 20 <;> simp [hb, hb2]
  · by_cases ha2 : a = s + 1
    · subst ha2
      by_cases hb2 : b < 42
      · have : 20 + b ≠ k := by omega
        simp [hb2, this]
      · simp [hb2]
    · simp [ha, ha2]
theorem x_hp_putT (σ : x_Hp) (s : Nat) (v : x_V) (c : x_Sc) {k : Nat} (hk : k < 42) (x : Int32) : x_pI (x_hp σ s v c) (s + 1) k x = x_hp σ s (x_u v (20 + k) x) c := by
  refine x_ext (fun a b => ?_) rfl
  rw [x_pI_1]
  simp only [x_hp, x_u]
  by_cases ha : a = s
  · subst ha
    by_cases hb2 : b < 20
    · have : b ≠ 20 + k := by omega
      simp [hb2, this]
    · simp [hb2]
  · by_cases ha2 : a = s + 1
    · subst ha2
      by_cases hb : b = k
      · subst hb; simp [hk]
      · by_cases hb2 : b < 42
        · have : 20 + b ≠ 20 + k := by omega
          simp [hb, hb2, this]
        · simp [hb, hb2]
    · simp [ha, ha2]
theorem x_hp_put13 (σ : x_Hp) {s : Nat} (hs : x_St s) (v : x_V) (c : x_Sc) (k : Nat) (x : Int32) : x_pI (x_hp σ s v c) 13 k x = x_hp σ s v (x_u c.1 k x, c.2) := by
  have h1 := hs.facts.1
  refine x_ext (fun a b => ?_) rfl
  rw [x_pI_1]
  simp only [x_hp, x_u]
  by_cases ha : a = s
  · subst ha
    have : a ≠ 13 := by omega
    simp [this]
  · by_cases ha2 : a = s + 1
    · subst ha2
      have : s + 1 ≠ 13 := by omega
      simp [this]
    · by_cases h13 : a = 13
      · subst h13
        by_cases hb : b = k <;> simp [ha, ha2, hb]
      · simp [ha, ha2, h13]
theorem x_hp_put8 (σ : x_Hp) {s : Nat} (hs : x_St s) (v : x_V) (c : x_Sc) (x : Int32) : x_pI (x_hp σ s v c) 8 7 x = x_hp σ s v (c.1, x) := by
  have h1 := hs.facts.1
  refine x_ext (fun a b => ?_) rfl
  rw [x_pI_1]
  simp only [x_hp]
  by_cases ha : a = s
  · subst ha
    have : a ≠ 8 := by omega
    simp [this]
  · by_cases ha2 : a = s + 1
    · subst ha2
      have : s + 1 ≠ 8 := by omega
      simp [this]
    · by_cases h13 : a = 13
      · subst h13; simp [ha, ha2]
      · by_cases h8 : a = 8
        · subst h8
          by_cases hb : b = 7
          · subst hb; simp [ha, ha2]
          · simp [ha, ha2, hb]
        · simp [ha, ha2, h13, h8]
/-- the state's own methods -/
theorem e_look (s : Nat) (k : Int32) (σ : x_Hp) (v : x_V) (c : x_Sc) : F_X5_look s k (x_hp σ s v c) = some (m_var v k, x_hp σ s v c) := by
  simp only [F_X5_look, m_var, x_hp_get σ s v c (show 0 < 20 by decide), x_hp_get σ s v c (show 1 < 20 by decide), x_hp_get σ s v c (show 2 < 20 by decide), x_hp_get σ s v c (show 3 < 20 by decide), x_hp_get σ s v c (show 4 < 20 by decide), x_hp_get σ s v c (show 5 < 20 by decide), x_hp_get σ s v c (show 6 < 20 by decide), x_hp_get σ s v c (show 7 < 20 by decide), x_hp_get σ s v c (show 8 < 20 by decide)]
  repeat' split
  all_goals rfl
theorem e_tm {s : Nat} (hs : x_St s) (what more : Int32) (σ : x_Hp) (v : x_V) (c : x_Sc) : F_X5_tallyMore s what more (x_hp σ s v c) = some ((), x_hp σ s (m_tm v what more) c) := by
  obtain ⟨h1, -, h20, h42, -⟩ := hs.facts
  have hi := x_inb_iff (i := v 9 * 7 + what) (n := 42) (by decide)
  simp only [F_X5_tallyMore, h20, h42, x_hp_get σ s v c (show 9 < 20 by decide), m_tm, x_pt]
  split
  · rw [if_neg (fun q => (hi.mp q).1 (by assumption))]
  · split
    · rw [if_neg (fun q => (hi.mp q).2 (by assumption))]
    · have q : x_inb (v 9 * 7 + what) 42 = true := hi.mpr ⟨by assumption, by assumption⟩
      have ql := x_inb_lt q
      rw [if_pos q, x_gd_t q, x_gd_t q, x_hp_tal σ s v c ql, x_hp_putT σ s v c ql]
theorem e_tallied {s : Nat} (hs : x_St s) (a what : Int32) (σ : x_Hp) (v : x_V) (c : x_Sc) : F_X5_tallied s a what (x_hp σ s v c) = some (m_tal v a what, x_hp σ s v c) := by
  obtain ⟨h1, -, h20, h42, -⟩ := hs.facts
  simp only [F_X5_tallied, h20, e_at, x_b_s, x_aT, h42, m_tal]
  split
  · rw [x_hp_tal σ s v c (x_inb_lt (by assumption))]
  · rfl
theorem e_all {s : Nat} (hs : x_St s) (what : Int32) (σ : x_Hp) (v : x_V) (c : x_Sc) : F_X5_allTallied s what (x_hp σ s v c) = some (m_all v what, x_hp σ s v c) := by
  have e : x_fuel = 65529 + 7 := rfl
  rw [F_X5_allTallied, e]
  iterate 6 rw [F_X5_allTallied_4, if_neg (by decide), e_tallied hs, x_b_s]
  rw [F_X5_allTallied_4, if_pos (by decide)]
  rfl
