/-! ALL ORDERS, as lists of numbers -/
def n_at (l : List Nat) (k : Nat) : Nat := l.getD k 0
def n_sw (l : List Nat) (i j : Nat) : List Nat := (l.set i (n_at l j)).set j (n_at l i)
def n_i (l : List Nat) : Nat → Option Nat
  | 0 => none
  | j + 1 => bif Nat.ble (n_at l j) (n_at l (j + 1)) then some j else n_i l j
def n_j (l : List Nat) (i : Nat) : Nat → Nat
  | 0 => 0
  | j + 1 => bif Nat.ble (n_at l i) (n_at l (j + 1)) then j + 1 else n_j l i j
def n_rv : Nat → List Nat → Nat → Nat → List Nat
  | 0, l, _, _ => l
  | f + 1, l, a, b => bif Nat.blt a b then n_rv f (n_sw l a b) (a + 1) (b - 1) else l
def n_nx (N : Nat) (l : List Nat) : Option (Nat × List Nat) := match n_i l (N - 1) with
  | none => none
  | some i => some (i, n_rv 6 (n_sw l i (n_j l i (N - 1))) (i + 1) (N - 1))
def n_r6 : List Nat := [0, 1, 2, 3, 4, 5]
def n_good (N : Nat) (l : List Nat) : Bool := Nat.beq l.length 6 && (n_r6.all (fun k => Nat.blt (n_at l k) 6) && (n_r6.all (fun i => !Nat.blt i N || (Nat.blt (n_at l i) N && n_r6.all (fun j => !Nat.blt j i || !Nat.beq (n_at l i) (n_at l j))))) && n_r6.all (fun b => !Nat.blt b N || n_r6.any (fun k => Nat.blt k N && Nat.beq (n_at l k) b)))
def n_chk (N : Nat) : Nat → List Nat → Bool
  | 0, _ => false
  | f + 1, l => n_good N l && (match n_nx N l with
    | none => true
    | some q => (n_r6.all (fun k => !Nat.blt k q.1 || Nat.beq (n_at q.2 k) (n_at l k))) && n_chk N f q.2)
theorem n_chk1 : n_chk 1 720 n_r6 = true := by decide +kernel
theorem n_chk2 : n_chk 2 720 n_r6 = true := by decide +kernel
theorem n_chk3 : n_chk 3 720 n_r6 = true := by decide +kernel
theorem n_chk4 : n_chk 4 720 n_r6 = true := by decide +kernel
theorem n_chk5 : n_chk 5 720 n_r6 = true := by decide +kernel
theorem n_chk6 : n_chk 6 720 n_r6 = true := by decide +kernel
theorem n_chkN {N : Nat} (h1 : 1 ≤ N) (h6 : N ≤ 6) : n_chk N 720 n_r6 = true := by
  have hc : N = 1 ∨ N = 2 ∨ N = 3 ∨ N = 4 ∨ N = 5 ∨ N = 6 := by omega
  rcases hc with rfl | rfl | rfl | rfl | rfl | rfl
  · exact n_chk1
  · exact n_chk2
  · exact n_chk3
  · exact n_chk4
  · exact n_chk5
  · exact n_chk6
theorem n_6 {P : Nat → Bool} (h : n_r6.all P = true) {k : Nat} (hk : k < 6) : P k = true := by
  have := List.all_eq_true.mp h k (by
    have hc : k = 0 ∨ k = 1 ∨ k = 2 ∨ k = 3 ∨ k = 4 ∨ k = 5 := by omega
    rcases hc with rfl | rfl | rfl | rfl | rfl | rfl <;> decide)
  exact this
theorem n_blt {a b : Nat} : Nat.blt a b = true ↔ a < b := by
  rw [Nat.blt, Nat.ble_eq]; exact Iff.rfl
theorem n_good_len {N : Nat} {l : List Nat} (h : n_good N l = true) : l.length = 6 := by
  rw [n_good, Bool.and_eq_true] at h
  exact Nat.eq_of_beq_eq_true h.1
theorem n_good_on {N : Nat} {l : List Nat} (h : n_good N l = true) (h6 : N ≤ 6) {b : Nat} (hb : b < N) : ∃ k, k < N ∧ n_at l k = b := by
  rw [n_good, Bool.and_eq_true, Bool.and_eq_true] at h
  have := n_6 h.2.2 (k := b) (by omega)
  rw [n_blt.mpr hb, Bool.not_true, Bool.false_or, List.any_eq_true] at this
  obtain ⟨k, -, hk⟩ := this
  rw [Bool.and_eq_true] at hk
  exact ⟨k, n_blt.mp hk.1, Nat.eq_of_beq_eq_true hk.2⟩
theorem n_good_6 {N : Nat} {l : List Nat} (h : n_good N l = true) {k : Nat} (hk : k < 6) : n_at l k < 6 := by
  rw [n_good, Bool.and_eq_true, Bool.and_eq_true] at h
  rw [Bool.and_eq_true] at h
  exact n_blt.mp (n_6 h.2.1.1 hk)
theorem n_good_N {N : Nat} {l : List Nat} (h : n_good N l = true) (h6 : N ≤ 6) {k : Nat} (hk : k < N) : n_at l k < N ∧ ∀ j, j < k → n_at l k ≠ n_at l j := by
  rw [n_good, Bool.and_eq_true, Bool.and_eq_true] at h
  rw [Bool.and_eq_true] at h
  have := n_6 h.2.1.2 (k := k) (by omega)
  rw [n_blt.mpr hk, Bool.not_true, Bool.false_or, Bool.and_eq_true] at this
  refine ⟨n_blt.mp this.1, fun j hj e => ?_⟩
  have q := n_6 this.2 (k := j) (by omega)
  rw [n_blt.mpr hj, Bool.not_true, Bool.false_or, e] at q
  rw [show Nat.beq (n_at l j) (n_at l j) = true from Nat.beq_refl _] at q
  cases q
theorem n_good_ne {N : Nat} {l : List Nat} (h : n_good N l = true) (h6 : N ≤ 6) {i j : Nat} (hi : i < N) (hj : j < N) (hij : i ≠ j) : n_at l i ≠ n_at l j := by
  rcases Nat.lt_or_ge i j with q | q
  · exact fun e => (n_good_N h h6 hj).2 i q e.symm
  · exact (n_good_N h h6 hi).2 j (by omega)
theorem n_at_set (l : List Nat) (i x k : Nat) (hi : i < l.length) : n_at (l.set i x) k = if k = i then x else n_at l k := by
  rw [n_at, n_at, List.getD_eq_getElem?_getD, List.getD_eq_getElem?_getD, List.getElem?_set]
  by_cases h : i = k
  · subst h; simp [hi]
  · rw [if_neg h, if_neg (fun q => h q.symm)]
theorem n_sw_len (l : List Nat) (i j : Nat) : (n_sw l i j).length = l.length := by simp [n_sw]
theorem n_sw_at (l : List Nat) {i j : Nat} (hi : i < l.length) (hj : j < l.length) (k : Nat) : n_at (n_sw l i j) k = if k = j then n_at l i else if k = i then n_at l j else n_at l k := by
  rw [n_sw, n_at_set _ _ _ _ (by simpa using hj), n_at_set _ _ _ _ hi]
theorem n_i_some {l : List Nat} : ∀ {m i : Nat}, n_i l m = some i → i < m ∧ n_at l i ≤ n_at l (i + 1) := by
  intro m
  induction m with
  | zero => intro i h; cases h
  | succ m ih =>
    intro i h
    rw [n_i] at h
    by_cases q : n_at l m ≤ n_at l (m + 1)
    · rw [Nat.ble_eq.mpr q] at h
      cases h
      exact ⟨by omega, q⟩
    · have : Nat.ble (n_at l m) (n_at l (m + 1)) = false := by
        cases e : Nat.ble (n_at l m) (n_at l (m + 1)) with
        | true => exact absurd (Nat.ble_eq.mp e) q
        | false => rfl
      rw [this] at h
      obtain ⟨a, b⟩ := ih h
      exact ⟨by omega, b⟩
theorem n_ble_f {a b : Nat} (h : ¬ a ≤ b) : Nat.ble a b = false := by
  cases e : Nat.ble a b with
  | true => exact absurd (Nat.ble_eq.mp e) h
  | false => rfl
theorem n_j_in {l : List Nat} {i : Nat} (h : n_at l i ≤ n_at l (i + 1)) : ∀ m, i + 1 ≤ m → i + 1 ≤ n_j l i m ∧ n_j l i m ≤ m := by
  intro m
  induction m with
  | zero => intro h; omega
  | succ m ih =>
    intro hm
    rw [n_j]
    by_cases q : n_at l i ≤ n_at l (m + 1)
    · rw [Nat.ble_eq.mpr q]; exact ⟨hm, Nat.le_refl _⟩
    · rw [n_ble_f q]
      have : i + 1 ≠ m + 1 := by
        intro e; rw [e] at h; exact q h
      have := ih (by omega)
      exact ⟨this.1, by show n_j l i m ≤ m + 1; omega⟩
/-! a row of six that holds an order -/
def o_hp (r : Nat) (σ : x_Hp) (l : List Nat) : x_Hp := (x_u σ.1 r (fun k => if k < 6 then nI (n_at l k) else σ.1 r k), σ.2)
theorem o_at (r : Nat) (σ : x_Hp) (l : List Nat) {k : Nat} (h : k < 6) : (o_hp r σ l).1 r k = nI (n_at l k) := by simp [o_hp, x_u, h]
theorem o_oth (r : Nat) (σ : x_Hp) (l : List Nat) {a : Nat} (b : Nat) (h : a ≠ r) : (o_hp r σ l).1 a b = σ.1 a b := by simp [o_hp, x_u, h]
theorem o_of (r : Nat) (σ : x_Hp) (l : List Nat) (h : ∀ k, k < 6 → σ.1 r k = nI (n_at l k)) : σ = o_hp r σ l := by
  refine x_ext (fun a b => ?_) rfl
  simp only [o_hp, x_u]
  by_cases ha : a = r
  · subst ha
    by_cases hb : b < 6
    · simp [hb, h b hb]
    · simp [hb]
  · simp [ha]
theorem o_put (r : Nat) (σ : x_Hp) (l : List Nat) {i : Nat} (hl : l.length = 6) (hi : i < 6) (x : Nat) : x_pI (o_hp r σ l) r i (nI x) = o_hp r σ (l.set i x) := by
  refine x_ext (fun a b => ?_) rfl
  rw [x_pI_1]
  simp only [o_hp, x_u]
  by_cases ha : a = r
  · subst ha
    by_cases hb : b = i
    · subst hb; simp [hi, n_at_set l b x b (by omega)]
    · by_cases h6 : b < 6
      · simp [hb, h6, n_at_set l i x b (by omega)]
      · simp [hb, h6]
  · simp [ha]
theorem c_change (σ : x_Hp) (l : List Nat) (hl : l.length = 6) {i j : Nat} (hi : i < 6) (hj : j < 6) : F_X3_change (nI i) (nI j) (o_hp 148 σ l) = some ((), o_hp 148 σ (n_sw l i j)) := by
  have e : ∀ k l, k < 6 → x_aT (o_hp 148 σ l) 148 (nI k) = nI (n_at l k) := fun k l hk => by rw [x_aT_nI _ _ (by rw [lnX_148]; exact hk), o_at _ _ _ hk]
  rw [F_X3_change, e_at, x_b_s, e_at, x_b_s, e i l hi, e j l hj, e_put, x_b_s, x_pT_nI _ _ (by rw [lnX_148]; exact hi), o_put _ _ _ hl hi, e_put, x_b_s, x_pT_nI _ _ (by rw [lnX_148]; exact hj), o_put _ _ _ (by simpa using hl) hj, n_sw]
theorem n_blt_f {a b : Nat} (h : ¬ a < b) : Nat.blt a b = false := by
  cases e : Nat.blt a b with
  | true => exact absurd (n_blt.mp e) h
  | false => rfl
theorem c_rev (x2 : Int32) : ∀ (f : Nat) (l : List Nat) (a b n : Nat) (σ : x_Hp), l.length = 6 → b < 6 → a < 100 → b ≤ a + 2 * f → f < n → F_X3_follow_102 n x2 (nI a) (nI b) (o_hp 148 σ l) = some (x2, o_hp 148 σ (n_rv f l a b)) ∧ (n_rv f l a b).length = 6 := by
  intro f
  induction f with
  | zero =>
    intro l a b n σ hl hb ha hf hn
    obtain ⟨n, rfl⟩ : ∃ m, n = m + 1 := ⟨n - 1, by omega⟩
    rw [F_X3_follow_102, if_pos (nI_le (by omega) (by omega)), n_rv]; exact ⟨rfl, hl⟩
  | succ f ih =>
    intro l a b n σ hl hb ha hf hn
    obtain ⟨n, rfl⟩ : ∃ m, n = m + 1 := ⟨n - 1, by omega⟩
    rw [F_X3_follow_102, n_rv]
    by_cases q : a < b
    · rw [n_blt.mpr q, if_neg (nI_ge q (by omega)), c_change σ l hl (by omega) hb, x_b_s, nI_1, sb_m1 (by omega)]
      exact ih (n_sw l a b) (a + 1) (b - 1) n σ (by rw [n_sw_len]; exact hl) (by omega) (by omega) (by omega) (by omega)
    · rw [n_blt_f q, if_pos (nI_le (by omega) (by omega))]
      exact ⟨rfl, hl⟩
theorem y_rev : ∀ (f : Nat) (l : List Nat) (a b n : Nat) (σ : x_Hp), l.length = 6 → b < 6 → a < 100 → b ≤ a + 2 * f → f < n → F_X9_nextOrder_110 n (nI a) (nI b) (o_hp 37 σ l) = some (1, o_hp 37 σ (n_rv f l a b)) := by
  intro f
  induction f with
  | zero =>
    intro l a b n σ hl hb ha hf hn
    obtain ⟨n, rfl⟩ : ∃ m, n = m + 1 := ⟨n - 1, by omega⟩
    rw [F_X9_nextOrder_110, if_pos (nI_le (by omega) (by omega)), n_rv]
  | succ f ih =>
    intro l a b n σ hl hb ha hf hn
    obtain ⟨n, rfl⟩ : ∃ m, n = m + 1 := ⟨n - 1, by omega⟩
    rw [F_X9_nextOrder_110, n_rv]
    by_cases q : a < b
    · have ia : x_inb (nI a) 6 = true := x_inb_nI (by omega) (by decide)
      have ib : x_inb (nI b) 6 = true := x_inb_nI (by omega) (by decide)
      rw [n_blt.mpr q, if_neg (nI_ge q (by omega)), x_gd_t ia, x_gd_t ib, x_gd_t ia, x_pt_s, x_gd_t ib, x_pt_s, x_ix_nI (by omega), x_ix_nI (by omega), o_at _ _ _ hb, o_at _ _ _ (by omega), o_put _ _ _ hl (by omega), o_put _ _ _ (by simpa using hl) hb, nI_1, sb_m1 (by omega)]
      exact ih (n_sw l a b) (a + 1) (b - 1) n σ (by rw [n_sw_len]; exact hl) (by omega) (by omega) (by omega) (by omega)
    · rw [n_blt_f q, if_pos (nI_le (by omega) (by omega))]; rfl
theorem c_follow {N : Nat} {l : List Nat} (h1 : 1 ≤ N) (h6 : N ≤ 6) (hl : l.length = 6) (hv : ∀ k, k < 6 → n_at l k < 6) (σ : x_Hp) (hN : σ.1 1 7 = nI N) : (n_nx N l = none ∧ F_X3_follow (o_hp 148 σ l) = some (-1, o_hp 148 σ l)) ∨ ∃ i l', n_nx N l = some (i, l') ∧ i + 1 < N ∧ l'.length = 6 ∧ F_X3_follow (o_hp 148 σ l) = some (nI i, o_hp 148 σ l') := by
  have e : ∀ k, k < 6 → x_aT (o_hp 148 σ l) 148 (nI k) = nI (n_at l k) := fun k hk => by rw [x_aT_nI _ _ (by rw [lnX_148]; exact hk), o_at _ _ _ hk]
  have le : ∀ i j, i < 6 → j < 6 → (nI (n_at l i) ≤ nI (n_at l j) ↔ n_at l i ≤ n_at l j) := fun i j hi hj => nI_leI (by have := hv i hi; omega) (by have := hv j hj; omega)
  have second : ∀ (i : Nat), n_at l i ≤ n_at l (i + 1) → i + 1 < N → ∀ (m n : Nat), i + 1 ≤ m → m < N → m < n → F_X3_follow_56 n (nI N) (nI i) (nI m) (o_hp 148 σ l) = F_X3_follow_86 (nI N) (nI i) (nI (n_j l i m)) (o_hp 148 σ l) := by
    intro i hi hiN m
    induction m with
    | zero => intro n h; omega
    | succ m ih =>
      intro n h1 h2 h3
      obtain ⟨n, rfl⟩ : ∃ m, n = m + 1 := ⟨n - 1, by omega⟩
      rw [F_X3_follow_56, if_neg (nI_ge (by omega) (by omega)), e_at, x_b_s, e_at, x_b_s, e _ (by omega), e _ (by omega), n_j]
      by_cases q : n_at l i ≤ n_at l (m + 1)
      · rw [Nat.ble_eq.mpr q, if_pos ((le i (m + 1) (by omega) (by omega)).mpr q)]; rfl
      · rw [n_ble_f q, if_neg (fun z => q ((le i (m + 1) (by omega) (by omega)).mp z)), sb_m1 (by omega)]
        have : i + 1 ≠ m + 1 := by intro z; rw [z] at hi; exact q hi
        exact ih n (by omega) (by omega) (by omega)
  have first : ∀ (m n : Nat), m < N → m < n → (n_i l m = none → F_X3_follow_15 n (nI N) (nI m - 1) (o_hp 148 σ l) = some (-1, o_hp 148 σ l)) ∧ ∀ i, n_i l m = some i → F_X3_follow_15 n (nI N) (nI m - 1) (o_hp 148 σ l) = F_X3_follow_46 (nI N) (nI i) (o_hp 148 σ l) := by
    intro m
    induction m with
    | zero =>
      intro n hm hn
      obtain ⟨n, rfl⟩ : ∃ m, n = m + 1 := ⟨n - 1, by omega⟩
      refine ⟨fun _ => ?_, fun i h => (by cases h)⟩
      rw [F_X3_follow_15, if_pos (show nI 0 - 1 < 0 by decide), F_X3_follow_46, if_neg (show ¬ (0 : Int32) ≤ nI 0 - 1 by decide)]
    | succ m ih =>
      intro n hm hn
      obtain ⟨n, rfl⟩ : ∃ m, n = m + 1 := ⟨n - 1, by omega⟩
      rw [F_X3_follow_15, nI_pred, if_neg (nI_pos (by omega)), e_at, x_b_s, e_at, x_b_s, nI_1, e _ (by omega), e _ (by omega), n_i]
      by_cases q : n_at l m ≤ n_at l (m + 1)
      · rw [Nat.ble_eq.mpr q, if_pos ((le m (m + 1) (by omega) (by omega)).mpr q)]
        exact ⟨fun h => (by cases h), fun i h => (by cases h; rfl)⟩
      · rw [n_ble_f q, if_neg (fun z => q ((le m (m + 1) (by omega) (by omega)).mp z)), show nI m + (-1 : Int32) = nI m - 1 from (Int32.sub_eq_add_neg (nI m) 1).symm]
        exact ih n (by omega) (by omega)
  have st : F_X3_follow (o_hp 148 σ l) = F_X3_follow_15 x_fuel (nI N) (nI (N - 1) - 1) (o_hp 148 σ l) := by
    rw [F_X3_follow, o_oth _ _ _ _ (by decide), hN]
    congr 1
    rcases Nat.lt_or_ge 1 N with q | q
    · rw [show (2 : Int32) = nI 2 from rfl, show (1 : Int32) = nI 1 from rfl, pk_sub (by omega), pk_sub (by omega)]; congr 1
    · have : N = 1 := by omega
      subst this; decide
  rw [st]
  obtain ⟨f1, f2⟩ := first (N - 1) x_fuel (by omega) (by rw [x_fuel]; omega)
  cases hi : n_i l (N - 1) with
  | none =>
    left
    exact ⟨by rw [n_nx, hi], f1 hi⟩
  | some i =>
    right
    obtain ⟨i1, i2⟩ := n_i_some hi
    obtain ⟨j1, j2⟩ := n_j_in i2 (N - 1) (by omega)
    have hsl : (n_sw l i (n_j l i (N - 1))).length = 6 := by rw [n_sw_len]; exact hl
    obtain ⟨g1, g2⟩ := c_rev (nI i) 6 (n_sw l i (n_j l i (N - 1))) (i + 1) (N - 1) x_fuel σ hsl (by omega) (by omega) (by omega) (by decide)
    refine ⟨i, n_rv 6 (n_sw l i (n_j l i (N - 1))) (i + 1) (N - 1), by rw [n_nx, hi], by omega, g2, ?_⟩
    rw [f2 i hi, F_X3_follow_46, if_pos (nI_pos' (by omega)), show (1 : Int32) = nI 1 from rfl, pk_sub h1, second i i2 (by omega) (N - 1) x_fuel (by omega) (by omega) (by rw [x_fuel]; omega), F_X3_follow_86, c_change σ l hl (by omega) (by omega), x_b_s, nI_1, show (1 : Int32) = nI 1 from rfl, pk_sub h1]
    exact g1
theorem y_follow {N lv : Nat} {l : List Nat} (h1 : 1 ≤ N) (h6 : N ≤ 6) (hl : l.length = 6) (hv : ∀ k, k < 6 → n_at l k < 6) (μ : x_Hp) (hlv : lv < 2) (h18 : μ.1 0 18 = nI lv) (h10 : μ.1 10 lv = nI N) : (n_nx N l = none → F_X9_nextOrder (o_hp 37 μ l) = some (0, o_hp 37 μ l)) ∧ ∀ i l', n_nx N l = some (i, l') → F_X9_nextOrder (o_hp 37 μ l) = some (1, o_hp 37 μ l') := by
  have le : ∀ i j, i < 6 → j < 6 → (nI (n_at l i) ≤ nI (n_at l j) ↔ n_at l i ≤ n_at l j) := fun i j hi hj => nI_leI (by have := hv i hi; omega) (by have := hv j hj; omega)
  have inb : ∀ k, k < 6 → x_inb (nI k) 6 = true := fun k hk => x_inb_nI hk (by decide)
  have second : ∀ (i : Nat), n_at l i ≤ n_at l (i + 1) → i + 1 < N → ∀ (m n : Nat), i + 1 ≤ m → m < N → m < n → F_X9_nextOrder_51 n (nI N) (nI i) (nI m) (o_hp 37 μ l) = F_X9_nextOrder_110 x_fuel (nI (i + 1)) (nI (N - 1)) (o_hp 37 μ (n_sw l i (n_j l i m))) := by
    intro i hi hiN m
    induction m with
    | zero => intro n h; omega
    | succ m ih =>
      intro n h1 h2 h3
      obtain ⟨n, rfl⟩ : ∃ m, n = m + 1 := ⟨n - 1, by omega⟩
      have hjj := inb (m + 1) (by omega)
      have hii := inb i (by omega)
      rw [F_X9_nextOrder_51, x_gd_t hjj, x_gd_t hii, x_ix_nI (by omega), x_ix_nI (by omega), o_at _ _ _ (by omega), o_at _ _ _ (by omega), n_j]
      by_cases q : n_at l i ≤ n_at l (m + 1)
      · rw [Nat.ble_eq.mpr q, if_pos ((le i (m + 1) (by omega) (by omega)).mpr q), x_gd_t hii, x_gd_t hjj, x_gd_t hii, x_pt_s, x_gd_t hjj, x_pt_s, o_put _ _ _ hl (by omega), o_put _ _ _ (by simpa using hl) (by omega), nI_1, show (1 : Int32) = nI 1 from rfl, pk_sub (by omega)]; rfl
      · rw [n_ble_f q, if_neg (fun z => q ((le i (m + 1) (by omega) (by omega)).mp z)), sb_m1 (by omega)]
        have : i + 1 ≠ m + 1 := by intro z; rw [z] at hi; exact q hi
        exact ih n (by omega) (by omega) (by omega)
  have first : ∀ (m n : Nat), m < N → m < n → (n_i l m = none → F_X9_nextOrder_14 n (nI N) (nI m - 1) (o_hp 37 μ l) = some (0, o_hp 37 μ l)) ∧ ∀ i, n_i l m = some i → F_X9_nextOrder_14 n (nI N) (nI m - 1) (o_hp 37 μ l) = F_X9_nextOrder_41 (nI N) (nI i) (o_hp 37 μ l) := by
    intro m
    induction m with
    | zero =>
      intro n hm hn
      obtain ⟨n, rfl⟩ : ∃ m, n = m + 1 := ⟨n - 1, by omega⟩
      refine ⟨fun _ => ?_, fun i h => (by cases h)⟩
      rw [F_X9_nextOrder_14, if_pos (show nI 0 - 1 < 0 by decide), F_X9_nextOrder_41, if_neg (show ¬ (0 : Int32) ≤ nI 0 - 1 by decide)]
    | succ m ih =>
      intro n hm hn
      obtain ⟨n, rfl⟩ : ∃ m, n = m + 1 := ⟨n - 1, by omega⟩
      rw [F_X9_nextOrder_14, nI_pred, if_neg (nI_pos (by omega)), nI_1, x_gd_t (inb m (by omega)), x_gd_t (inb (m + 1) (by omega)), x_ix_nI (by omega), x_ix_nI (by omega), o_at _ _ _ (by omega), o_at _ _ _ (by omega), n_i]
      by_cases q : n_at l m ≤ n_at l (m + 1)
      · rw [Nat.ble_eq.mpr q, if_pos ((le m (m + 1) (by omega) (by omega)).mpr q)]
        exact ⟨fun h => (by cases h), fun i h => (by cases h; rfl)⟩
      · rw [n_ble_f q, if_neg (fun z => q ((le m (m + 1) (by omega) (by omega)).mp z)), show nI m + (-1 : Int32) = nI m - 1 from (Int32.sub_eq_add_neg (nI m) 1).symm]
        exact ih n (by omega) (by omega)
  have st : F_X9_nextOrder (o_hp 37 μ l) = F_X9_nextOrder_14 x_fuel (nI N) (nI (N - 1) - 1) (o_hp 37 μ l) := by
    rw [F_X9_nextOrder, o_oth _ _ _ _ (by decide), h18, x_gd_t (x_inb_nI hlv (by decide)), x_ix_nI (by omega), o_oth _ _ _ _ (by decide), h10]
    congr 1
    rcases Nat.lt_or_ge 1 N with q | q
    · rw [show (2 : Int32) = nI 2 from rfl, show (1 : Int32) = nI 1 from rfl, pk_sub (by omega), pk_sub (by omega)]; congr 1
    · have : N = 1 := by omega
      subst this; decide
  rw [st]
  obtain ⟨f1, f2⟩ := first (N - 1) x_fuel (by omega) (by rw [x_fuel]; omega)
  cases hi : n_i l (N - 1) with
  | none => exact ⟨fun _ => f1 hi, fun i l' h => (by rw [n_nx, hi] at h; cases h)⟩
  | some i =>
    refine ⟨fun h => (by rw [n_nx, hi] at h; cases h), fun i' l' h => ?_⟩
    rw [n_nx, hi] at h
    cases h
    obtain ⟨i1, i2⟩ := n_i_some hi
    obtain ⟨j1, j2⟩ := n_j_in i2 (N - 1) (by omega)
    have hsl : (n_sw l i (n_j l i (N - 1))).length = 6 := by rw [n_sw_len]; exact hl
    rw [f2 i hi, F_X9_nextOrder_41, if_pos (nI_pos' (by omega)), show (1 : Int32) = nI 1 from rfl, pk_sub h1, second i i2 (by omega) (N - 1) x_fuel (by omega) (by omega) (by rw [x_fuel]; omega)]
    exact y_rev 6 (n_sw l i (n_j l i (N - 1))) (i + 1) (N - 1) x_fuel μ hsl (by omega) (by omega) (by omega) (by decide)
