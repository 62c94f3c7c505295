/-! ONE ORDER GONE THROUGH, the class's rows -/
theorem ro_St : ∀ d, d < 7 → x_kd TX (153 + 2 * d) = 5 := by decide +kernel
theorem ro_rf : ∀ d, d < 7 → x_rf TX 144 d = 153 + 2 * d := by decide +kernel
theorem c_row {d : Nat} (hd : d < 7) (σ : x_Hp) : F_X3_row (nI d) σ = some (153 + 2 * d, σ) := by
  rw [F_X3_row, if_neg (nI_pos (by omega)), if_neg (show ¬ (7 : Int32) ≤ nI d from nI_ge (b := 7) hd (by decide)), x_gd_t (x_inb_nI hd (by decide)), x_ix_nI (by omega), ro_rf d hd]
def e62 (u v : x_V) : Prop := ∀ k, k < 62 → u k = v k
theorem m_tal_c {u v : x_V} (h : e62 u v) (a q : Int32) : m_tal u a q = m_tal v a q := by
  rw [m_tal, m_tal]
  split
  · have := x_inb_lt (i := a * 7 + q) (n := 42) (by assumption)
    exact h _ (by omega)
  · rfl
theorem m_all_c {u v : x_V} (h : e62 u v) (q : Int32) : m_all u q = m_all v q := by
  rw [m_all, m_all, m_tal_c h, m_tal_c h, m_tal_c h, m_tal_c h, m_tal_c h, m_tal_c h]
theorem k_tal {s : Nat} (hs : x_St s) {τ : x_Hp} {u : x_V} (h : e62 (x_gS τ s) u) (a w : Int32) : F_X5_tallied s a w τ = some (m_tal u a w, τ) := by
  have := e_tallied hs a w τ (x_gS τ s) (x_sc τ)
  rw [← x_hp_of τ hs, m_tal_c h] at this
  exact this
theorem gS_hp {s : Nat} (hs : x_St s) (σ : x_Hp) (u : x_V) (c : x_Sc) : e62 (x_gS (x_hp σ s u c) s) u := by
  intro k hk
  simp only [x_gS]
  by_cases h : k < 20
  · rw [if_pos h, x_hp_get _ _ _ _ h]
  · rw [if_neg h, x_hp_tal _ _ _ _ (by omega)]; congr 1; omega
/-- a state taken from another one -/
theorem k_from {s r : Nat} (hs : x_St s) (hr : x_St r) (hne : s ≠ r) {σ : x_Hp} {u : x_V} (h : e62 (x_gS σ r) u) : F_X5_takeFrom s r σ = some ((), x_hp σ s u (x_sc σ)) := by
  have := e_take hs hr hne σ (x_gS σ s) (x_sc σ)
  rw [← x_hp_of σ hs] at this
  rw [this, x_hp_congr σ s (x_sc σ) h]
def x_sp (σ τ : x_Hp) : Prop := ∀ a b, ¬ (a = 13 ∨ (a = 8 ∧ b = 7) ∨ a = 145 ∨ (153 ≤ a ∧ a ≤ 166)) → τ.1 a b = σ.1 a b
theorem x_sp.rf (σ : x_Hp) : x_sp σ σ := fun _ _ _ => rfl
theorem x_sp.tr {σ τ υ : x_Hp} (h : x_sp σ τ) (g : x_sp τ υ) : x_sp σ υ := fun a b n => (g a b n).trans (h a b n)
theorem x_sp.hp (σ : x_Hp) {d : Nat} (hd : d < 7) (u : x_V) (c : x_Sc) : x_sp σ (x_hp σ (153 + 2 * d) u c) := by
  intro a b n
  simp only [x_hp]
  rw [if_neg (by omega), if_neg (by omega), if_neg (by omega), if_neg (by omega)]
theorem x_sp.T {σ τ : x_Hp} {T : x_TT} (h : x_sp σ τ) (hT : x_Tx σ T) : x_Tx τ T := hT.ag (fun a b q => h a b (by omega))
section PW
variable {T : x_TT} {lv N t m : Nat} {v : x_V} {l : List Nat}
def x_RW (T : x_TT) (m : Nat) (v : x_V) (l : List Nat) (σ : x_Hp) (e : Nat) : Prop := ∀ d, d ≤ e → e62 (x_gS σ (153 + 2 * d)) (m_pre T m v l d) ∧ σ.1 145 d = m_slp T m v l d
theorem c_path (hg : n_good N l = true) (hN6 : N ≤ 6) (hm : m ≤ 10) (hok : ∀ d, d ≤ N → m_pre T m v l d 13 = nI 0 ∧ ∃ x, x < 2 ^ 30 ∧ m_pre T m v l d 17 = nI x) (K : Int32 → Int32 → Int32 → x_Hp → Option (Unit × x_Hp)) (x5 : Int32) : ∀ (k f d : Nat) (σ : x_Hp), x_Tx σ T → T.1 1 7 = nI N → (∀ i, i < 6 → σ.1 148 i = nI (n_at l i)) → x_RW T m v l σ d → d + k = N → k < f → ∃ τ, F_X3_search_55 K f (nI m) x5 (nI d) σ = x_b (F_X3_weigh τ) (fun _ σ4 => x_b (F_X3_follow σ4) fun v5 σ5 => K (nI m) v5 (x5 + (1 : Int32)) σ5) ∧ x_RW T m v l τ N ∧ x_sp σ τ := by
  intro k
  induction k with
  | zero =>
    intro f d σ hT h7 hl hR h1 h2
    obtain ⟨f, rfl⟩ : ∃ m, f = m + 1 := ⟨f - 1, by omega⟩
    have : d = N := by omega
    subst this
    refine ⟨σ, ?_, hR, x_sp.rf _⟩
    rw [F_X3_search_55, hT.1 7, h7, if_pos (nI_le (Nat.le_refl _) (by omega))]
  | succ k ih =>
    intro f d σ hT h7 hl hR h1 h2
    obtain ⟨f, rfl⟩ : ∃ m, f = m + 1 := ⟨f - 1, by omega⟩
    have hs : x_St (153 + 2 * (d + 1)) := ro_St (d + 1) (by omega)
    have hr : x_St (153 + 2 * d) := ro_St d (by omega)
    have e1 := k_from hs hr (by omega) (hR d (Nat.le_refl _)).1
    have r148 : ∀ (u : x_V) (c : x_Sc) (b : Nat), (x_hp σ (153 + 2 * (d + 1)) u c).1 148 b = σ.1 148 b := fun u c b => x_hp_oth _ _ _ _ _ (by omega) (by omega) (by decide) (by decide)
    have r145 : ∀ (u : x_V) (c : x_Sc) (b : Nat), (x_hp σ (153 + 2 * (d + 1)) u c).1 145 b = σ.1 145 b := fun u c b => x_hp_oth _ _ _ _ _ (by omega) (by omega) (by decide) (by decide)
    obtain ⟨c2, g⟩ := e_keep hs hT (m_pre T m v l d) (x_sc σ) (nI (n_at l d)) (m := m) (by omega)
    have sq : m_pre T m v l (d + 1) = m_keep T (m_pre T m v l d) (nI (n_at l d)) m := rfl
    rw [← sq] at g
    obtain ⟨h13, x, hx, ex⟩ := hok d (by omega)
    obtain ⟨c, hc, ec, eq⟩ := m_keep_f T (m_pre T m v l d) (n_at l d) m (by rw [h13]; decide)
    have hm61 : m * 61 ≤ 610 := by omega
    rw [← sq, ex, nI_add] at ec
    have a148 : ∀ u c, x_aT (x_hp σ (153 + 2 * (d + 1)) u c) 148 (nI d) = nI (n_at l d) := fun u c => by rw [x_aT_nI _ _ (by rw [lnX_148]; omega), r148, hl d (by omega)]
    have a145 : ∀ u c, x_aT (x_hp σ (153 + 2 * (d + 1)) u c) 145 (nI d) = m_slp T m v l d := fun u c => by rw [x_aT_nI _ _ (by rw [lnX_145]; omega), r145, (hR d (Nat.le_refl _)).2]
    -- the heap behind it
    have fin : F_X3_search_55 K (f + 1) (nI m) x5 (nI d) σ = F_X3_search_55 K f (nI m) x5 (nI (d + 1)) (x_pI (x_hp σ (153 + 2 * (d + 1)) (m_pre T m v l (d + 1)) c2) 145 (d + 1) (m_slp T m v l (d + 1))) := by
      have put : ∀ x : Int32, F_X3_search_164 K (F_X3_search_55 K f) (nI m) x5 (nI d) x (nI (d + 1)) (x_hp σ (153 + 2 * (d + 1)) (m_pre T m v l (d + 1)) c2) = F_X3_search_55 K f (nI m) x5 (nI (d + 1)) (x_pI (x_hp σ (153 + 2 * (d + 1)) (m_pre T m v l (d + 1)) c2) 145 (d + 1) x) := by
        intro x
        rw [F_X3_search_164, e_put, x_b_s, x_pT_nI _ _ (by rw [lnX_145]; omega), nI_1]
      rw [F_X3_search_55, hT.1 7, h7, if_neg (nI_ge (by omega) (by omega)), nI_1, c_row (by omega), x_b_s, c_row (by omega), x_b_s, e1, x_b_s, e_at, x_b_s, a148, g, x_b_s, e_at, x_b_s, a145, x_hp_get _ _ _ _ (by decide), x_hp_get _ _ _ _ (by decide), ec, ex, m_slp]
      by_cases hz : m_slp T m v l d = -2
      · rw [if_pos hz, if_pos hz]
        by_cases hc0 : 0 < c
        · rw [if_neg (nI_ge (by omega) (by omega)), if_pos (eq.mpr hc0), put]
        · rw [if_pos (nI_le (by omega) (by omega)), if_neg (fun q => hc0 (eq.mp q)), F_X3_search_162, put, hz]
      · rw [if_neg hz, if_neg hz, F_X3_search_162, put]
    have sp : x_sp σ (x_pI (x_hp σ (153 + 2 * (d + 1)) (m_pre T m v l (d + 1)) c2) 145 (d + 1) (m_slp T m v l (d + 1))) := by
      refine (x_sp.hp σ (d := d + 1) (by omega) (m_pre T m v l (d + 1)) c2).tr ?_
      intro a b n
      rw [x_pI_1, if_neg (by omega)]
    obtain ⟨τ, q1, q2, q3⟩ := ih f (d + 1) _ (sp.T hT) h7 (fun i hi => by rw [sp 148 i (by omega)]; exact hl i hi) (by
      intro e he
      have h153 : ∀ b, (x_pI (x_hp σ (153 + 2 * (d + 1)) (m_pre T m v l (d + 1)) c2) 145 (d + 1) (m_slp T m v l (d + 1))).1 (153 + 2 * e) b = (x_hp σ (153 + 2 * (d + 1)) (m_pre T m v l (d + 1)) c2).1 (153 + 2 * e) b := fun b => by rw [x_pI_1, if_neg (by omega)]
      have h154 : ∀ b, (x_pI (x_hp σ (153 + 2 * (d + 1)) (m_pre T m v l (d + 1)) c2) 145 (d + 1) (m_slp T m v l (d + 1))).1 (153 + 2 * e + 1) b = (x_hp σ (153 + 2 * (d + 1)) (m_pre T m v l (d + 1)) c2).1 (153 + 2 * e + 1) b := fun b => by rw [x_pI_1, if_neg (by omega)]
      have hgs : x_gS (x_pI (x_hp σ (153 + 2 * (d + 1)) (m_pre T m v l (d + 1)) c2) 145 (d + 1) (m_slp T m v l (d + 1))) (153 + 2 * e) = x_gS (x_hp σ (153 + 2 * (d + 1)) (m_pre T m v l (d + 1)) c2) (153 + 2 * e) := by
        funext k
        simp only [x_gS]
        rw [h153, h154]
      rw [hgs]
      by_cases q : e = d + 1
      · subst q
        exact ⟨gS_hp hs _ _ _, by rw [x_pI_1, if_pos ⟨rfl, rfl⟩]⟩
      · obtain ⟨r1, r2⟩ := hR e (by omega)
        refine ⟨fun k hk => ?_, by rw [x_pI_1, if_neg (by omega), r145]; exact r2⟩
        rw [← r1 k hk]
        simp only [x_gS]
        rw [x_hp_oth _ _ _ _ _ (by omega) (by omega) (by omega) (by omega), x_hp_oth _ _ _ _ _ (by omega) (by omega) (by omega) (by omega)]) (by omega) (by omega)
    exact ⟨τ, by rw [fin, q1], q2, sp.tr q3⟩
end PW
/-! what is weighed: the luckiest one, the oftenest and the seldomest laughs -/
def m_luk (c : Nat → Int32) : Nat → Nat → Nat → Nat
  | 0, _, b => b
  | n + 1, i, b => m_luk c n (i + 1) (if c b ≤ c i then b else i)
def m_tp (L : Nat → Int32) : Nat → Nat → Int32 → Int32
  | 0, _, x => x
  | n + 1, i, x => m_tp L n (i + 1) (if L i ≤ x then x else L i)
def m_lw (L : Nat → Int32) : Nat → Nat → Int32 → Int32
  | 0, _, x => x
  | n + 1, i, x => m_lw L n (i + 1) (if x ≤ L i then x else L i)
def m_sm (c : Nat → Int32) : Nat → Nat → Int32 → Int32
  | 0, _, x => x
  | n + 1, i, x => m_sm c n (i + 1) (x + c i)
theorem x_mxm (x y : Int32) : (if x < y then y else x) = (if y ≤ x then x else y) := by
  by_cases h : x < y
  · rw [if_pos h, if_neg (by rw [Int32.le_iff_toInt_le]; rw [Int32.lt_iff_toInt_lt] at h; omega)]
  · rw [if_neg h, if_pos (by rw [Int32.le_iff_toInt_le]; rw [Int32.lt_iff_toInt_lt] at h; omega)]
theorem m_luk_in (c : Nat → Int32) {N : Nat} : ∀ (n i b : Nat), i + n = N → b < N → m_luk c n i b < N := by
  intro n
  induction n with
  | zero => intro i b _ h; exact h
  | succ n ih =>
    intro i b h1 h2
    rw [m_luk]
    exact ih (i + 1) _ (by omega) (by split <;> omega)
/-- the most and the least of numbers are apart by a number -/
theorem m_apart {L : Nat → Int32} {B N : Nat} (hB : B < 2 ^ 30) (hL : ∀ a, a < N → ∃ x, x ≤ B ∧ L a = nI x) : ∀ (n i x y : Nat), i + n = N → y ≤ x → x ≤ B → ∃ x' y', y' ≤ x' ∧ x' ≤ B ∧ m_tp L n i (nI x) = nI x' ∧ m_lw L n i (nI y) = nI y' := by
  intro n
  induction n with
  | zero => intro i x y _ h1 h2; exact ⟨x, y, h1, h2, rfl, rfl⟩
  | succ n ih =>
    intro i x y h h1 h2
    obtain ⟨z, hz, ez⟩ := hL i (by omega)
    rw [m_tp, m_lw, ez]
    have e1 : (if nI z ≤ nI x then nI x else nI z) = nI (if z ≤ x then x else z) := by
      by_cases q : z ≤ x
      · rw [if_pos (nI_le q (by omega)), if_pos q]
      · rw [if_neg (nI_ge (by omega) (by omega)), if_neg q]
    have e2 : (if nI y ≤ nI z then nI y else nI z) = nI (if y ≤ z then y else z) := by
      by_cases q : y ≤ z
      · rw [if_pos (nI_le q (by omega)), if_pos q]
      · rw [if_neg (nI_ge (by omega) (by omega)), if_neg q]
    rw [e1, e2]
    refine ih (i + 1) _ _ (by omega) ?_ ?_
    · split <;> split <;> omega
    · split <;> omega
theorem m_sm_6 (c : Nat → Int32) {N : Nat} (hN : N ≤ 6) (h0 : ∀ b, N ≤ b → b < 6 → c b = 0) : m_sm c N 0 0 = c 0 + c 1 + c 2 + c 3 + c 4 + c 5 := by
  have hc : N = 0 ∨ N = 1 ∨ N = 2 ∨ N = 3 ∨ N = 4 ∨ N = 5 ∨ N = 6 := by omega
  rcases hc with rfl | rfl | rfl | rfl | rfl | rfl | rfl
  · rw [h0 0 (by decide) (by decide), h0 1 (by decide) (by decide), h0 2 (by decide) (by decide), h0 3 (by decide) (by decide), h0 4 (by decide) (by decide), h0 5 (by decide) (by decide)]; rfl
  · rw [h0 1 (by decide) (by decide), h0 2 (by decide) (by decide), h0 3 (by decide) (by decide), h0 4 (by decide) (by decide), h0 5 (by decide) (by decide)]; simp only [m_sm, Int32.zero_add, Int32.add_zero]
  · rw [h0 2 (by decide) (by decide), h0 3 (by decide) (by decide), h0 4 (by decide) (by decide), h0 5 (by decide) (by decide)]; simp only [m_sm, Int32.zero_add, Int32.add_zero]
  · rw [h0 3 (by decide) (by decide), h0 4 (by decide) (by decide), h0 5 (by decide) (by decide)]; simp only [m_sm, Int32.zero_add, Int32.add_zero]
  · rw [h0 4 (by decide) (by decide), h0 5 (by decide) (by decide)]; simp only [m_sm, Int32.zero_add, Int32.add_zero]
  · rw [h0 5 (by decide) (by decide)]; simp only [m_sm, Int32.zero_add, Int32.add_zero]
  · simp only [m_sm, Int32.zero_add]
theorem m_all_sub (u v : x_V) (q : Nat) (hq : q < 7) : m_all u (nI q) - m_all v (nI q) = (m_tal u (nI 0) (nI q) - m_tal v (nI 0) (nI q)) + (m_tal u (nI 1) (nI q) - m_tal v (nI 1) (nI q)) + (m_tal u (nI 2) (nI q) - m_tal v (nI 2) (nI q)) + (m_tal u (nI 3) (nI q) - m_tal v (nI 3) (nI q)) + (m_tal u (nI 4) (nI q) - m_tal v (nI 4) (nI q)) + (m_tal u (nI 5) (nI q) - m_tal v (nI 5) (nI q)) := by
  rw [m_all, m_all]
  rw [show (0 : Int32) = nI 0 from rfl, show (1 : Int32) = nI 1 from rfl, show (2 : Int32) = nI 2 from rfl, show (3 : Int32) = nI 3 from rfl, show (4 : Int32) = nI 4 from rfl, show (5 : Int32) = nI 5 from rfl]
  rw [show nI 0 + m_tal u (nI 0) (nI q) = m_tal u (nI 0) (nI q) from Int32.zero_add _, show nI 0 + m_tal v (nI 0) (nI q) = m_tal v (nI 0) (nI q) from Int32.zero_add _]
  generalize m_tal u (nI 0) (nI q) = a0
  generalize m_tal u (nI 1) (nI q) = a1
  generalize m_tal u (nI 2) (nI q) = a2
  generalize m_tal u (nI 3) (nI q) = a3
  generalize m_tal u (nI 4) (nI q) = a4
  generalize m_tal u (nI 5) (nI q) = a5
  generalize m_tal v (nI 0) (nI q) = b0
  generalize m_tal v (nI 1) (nI q) = b1
  generalize m_tal v (nI 2) (nI q) = b2
  generalize m_tal v (nI 3) (nI q) = b3
  generalize m_tal v (nI 4) (nI q) = b4
  generalize m_tal v (nI 5) (nI q) = b5
  simp only [Int32.sub_eq_add_neg, Int32.neg_add]
  ac_rfl
theorem m_sm_sh {T : x_TT} {N m : Nat} {v : x_V} {l : List Nat} (hg : n_good N l = true) (hN : N ≤ 6) : m_sm (m_sh T N m v l 1) N 0 0 = m_all (m_pre T m v l N) 1 - m_all v 1 := by
  have h0 : ∀ b, N ≤ b → b < 6 → m_sh T N m v l 1 b = 0 := fun b h1 h2 => sh_hi (T := T) (m := m) (v := v) hg hN (q := 1) (by decide) h1 h2
  rw [m_sm_6 _ hN h0]
  exact (m_all_sub (m_pre T m v l N) v 1 (by decide)).symm
