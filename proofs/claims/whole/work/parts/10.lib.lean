/-! PURE ROWS: what the functions of the class do, said without their bytecode -/
theorem x_pI_1 (σ : x_Hp) (o k : Nat) (v : Int32) (a b : Nat) : (x_pI σ o k v).1 a b = if a = o ∧ b = k then v else σ.1 a b := by
  simp only [x_pI, x_u]
  by_cases h : a = o
  · subst h
    by_cases h2 : b = k
    · subst h2; simp [x_u]
    · simp [h2, x_u]
  · simp [h]
theorem x_pI_2 (σ : x_Hp) (o k : Nat) (v : Int32) : (x_pI σ o k v).2 = σ.2 := rfl
theorem x_pL_2 (σ : x_Hp) (o k : Nat) (v : Int64) (a b : Nat) : (x_pL σ o k v).2 a b = if a = o ∧ b = k then v else σ.2 a b := by
  simp only [x_pL, x_u]
  by_cases h : a = o
  · subst h
    by_cases h2 : b = k
    · subst h2; simp [x_u]
    · simp [h2, x_u]
  · simp [h]
theorem x_pL_1 (σ : x_Hp) (o k : Nat) (v : Int64) : (x_pL σ o k v).1 = σ.1 := rfl
theorem x_ext {σ τ : x_Hp} (h1 : ∀ a b, σ.1 a b = τ.1 a b) (h2 : σ.2 = τ.2) : σ = τ := Prod.ext (funext fun a => funext fun b => h1 a b) h2
theorem x_gd_t {α : Type} {b : Bool} {k : Option α} (h : b = true) : x_gd b k = k := by simp [x_gd, h]
theorem x_b_s {α β : Type} (a : α) (σ : x_Hp) (f : α → x_Hp → Option β) : x_b (some (a, σ)) f = f a σ := rfl
theorem x_pt_s {α : Type} (σ : x_Hp) (f : x_Hp → Option α) : x_pt σ f = f σ := rfl
theorem nI_lt0 {n : Nat} (h : n < 2 ^ 31) : ¬ nI n < 0 := nI_pos h
/-- an index is looked at, as at() does it -/
theorem x_inb_iff {i : Int32} {n : Nat} (hn : n < 2 ^ 31) : x_inb i n = true ↔ ¬ i < 0 ∧ ¬ Int32.ofNat n ≤ i := by
  have e : Int32.ofNat n = nI n := rfl
  rw [e]
  constructor
  · intro h
    obtain ⟨j, hj, rfl⟩ := vp_in_of (x_inb_in h) hn
    exact ⟨nI_pos (by omega), nI_ge hj hn⟩
  · intro ⟨h1, h2⟩
    obtain ⟨j, hj, rfl⟩ := nI_of h1
    have h3 : j < n := by
      rcases Nat.lt_or_ge j n with q | q
      · exact q
      · exact absurd (nI_le q hj) h2
    simp only [x_inb, Bool.not_eq_true', Bool.or_eq_false_iff, decide_eq_false_iff_not]
    exact ⟨nI_pos hj, by rw [nI_clamp hj]; omega⟩
theorem x_inb_nI {j n : Nat} (h : j < n) (hn : n < 2 ^ 31) : x_inb (nI j) n = true := (x_inb_iff hn).mpr ⟨nI_pos (by omega), nI_ge h hn⟩
theorem x_inb_nI' {j n : Nat} (h : n ≤ j) (hj : j < 2 ^ 31) : x_inb (nI j) n = false := by
  simp only [x_inb, nI_clamp hj]
  simp [h]
theorem x_ix_nI {j : Nat} (h : j < 2 ^ 31) : x_ix (nI j) = j := nI_clamp h
theorem x_inb_lt {i : Int32} {n : Nat} (h : x_inb i n = true) : x_ix i < n := Nat.not_le.mp (fun q => x_inb_in h (Or.inr q))
theorem TX_len (o : Nat) : x_ln TX o < 2 ^ 31 := by
  rcases Nat.lt_or_ge o 177 with h | h
  · have := List.all_eq_true.mp (show (List.range 177).all (fun o => decide (x_ln TX o < 2 ^ 31)) = true by decide +kernel) o (List.mem_range.mpr h)
    exact of_decide_eq_true this
  · have e : TX_ln.getD o 0 = 0 := by
      rw [List.getD_eq_getElem?_getD, List.getElem?_eq_none (Nat.le_trans (show TX_ln.length ≤ 177 from by decide +kernel) h)]
      rfl
    have e2 : x_ln TX o = 0 := e
    omega
/-- at(), put(), within(), between(), copy() -/
def x_aT (σ : x_Hp) (r : Nat) (x : Int32) : Int32 := if x_inb x (x_ln TX r) = true then σ.1 r (x_ix x) else 0
def x_pT (σ : x_Hp) (r : Nat) (x v : Int32) : x_Hp := if x_inb x (x_ln TX r) = true then x_pI σ r (x_ix x) v else σ
theorem e_at (r : Nat) (x : Int32) (σ : x_Hp) : F_X8_at r x σ = some (x_aT σ r x, σ) := by
  have h := x_inb_iff (i := x) (TX_len r)
  simp only [F_X8_at, x_aT, x_gd]
  split
  · rw [if_neg (fun q => (h.mp q).1 (by assumption))]
  · split
    · rw [if_neg (fun q => (h.mp q).2 (by assumption))]
    · have q : x_inb x (x_ln TX r) = true := h.mpr ⟨by assumption, by assumption⟩
      simp [q]
theorem e_put (r : Nat) (x v : Int32) (σ : x_Hp) : F_X8_put r x v σ = some ((), x_pT σ r x v) := by
  have h := x_inb_iff (i := x) (TX_len r)
  simp only [F_X8_put, x_pT, x_gd, x_pt]
  split
  · rw [if_neg (fun q => (h.mp q).1 (by assumption))]
  · split
    · rw [if_neg (fun q => (h.mp q).2 (by assumption))]
    · have q : x_inb x (x_ln TX r) = true := h.mpr ⟨by assumption, by assumption⟩
      simp [q]
def x_wi (x a b : Int32) : Int32 := if a < (if x < b then x else b) then (if x < b then x else b) else a
theorem e_within (x a b : Int32) (σ : x_Hp) : F_X8_within x a b σ = some (x_wi x a b, σ) := by
  simp only [F_X8_within, x_wi]
theorem e_between (x a b : Int32) (σ : x_Hp) : F_X8_between x a b σ = some (if a ≤ x ∧ x ≤ b then 1 else 0, σ) := by
  simp only [F_X8_between, Int32.lt_iff_toInt_lt, Int32.le_iff_toInt_le]
  repeat' split
  all_goals first | rfl | (exfalso; omega)
def x_cp (σ : x_Hp) (r0 r1 : Nat) (a : Nat) : x_Hp := (x_u σ.1 r1 (fun j => if a ≤ j ∧ j < x_ln TX r0 ∧ j < x_ln TX r1 then σ.1 r0 j else σ.1 r1 j), σ.2)
