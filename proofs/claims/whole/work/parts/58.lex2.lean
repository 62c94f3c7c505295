/-! READING: tokens -/
def n_tk (kd : Nat) : Nat := if kd < 25 then 20 + n_kw.getD kd 0 else if kd = 30 then 1 else if kd = 31 then 2 else if kd = 32 then 0 else if kd = 33 then 3 else if kd = 59 then 4 else if kd = 61 then 5 else if kd = 40 then 6 else if kd = 41 then 7 else if kd = 43 then 8 else if kd = 45 then 9 else if kd = 42 then 10 else if kd = 60 then 13 else 15
/-- a kind of token -/
def n_kd (kd : Nat) : Prop := kd < 25 ∨ kd = 30 ∨ kd = 31 ∨ kd = 32 ∨ kd = 33 ∨ kd = 59 ∨ kd = 61 ∨ kd = 40 ∨ kd = 41 ∨ kd = 43 ∨ kd = 45 ∨ kd = 42 ∨ kd = 60 ∨ kd = 47
def t_is (bt : Nat → Nat) (i L w : Nat) : Prop := L = (n_wl.getD w []).length ∧ ∀ k, k < L → bt (i + k) = (n_wl.getD w []).getD k 32
theorem n_gd {l : List Nat} {k : Nat} (h : k < l.length) (d : Nat) : l.getD k d = l[k] := by
  rw [List.getD_eq_getElem?_getD, List.getElem?_eq_getElem h]; rfl
theorem n_gdn {l : List Nat} {k : Nat} (h : ¬ k < l.length) (d : Nat) : l.getD k d = d := by
  rw [List.getD_eq_getElem?_getD, List.getElem?_eq_none (by omega)]; rfl
theorem n_wl_g {w : Nat} (hw : w < 25) (k : Nat) : (k < (n_wl.getD w []).length → 97 ≤ (n_wl.getD w []).getD k 32 ∧ (n_wl.getD w []).getD k 32 ≤ 122) ∧ (¬ k < (n_wl.getD w []).length → (n_wl.getD w []).getD k 32 = 32) := by
  refine ⟨fun h => ?_, fun h => ?_⟩
  · have := (n_wl_l w hw).2 ((n_wl.getD w []).getD k 32) (by rw [n_gd h]; exact List.getElem_mem h)
    exact this
  · exact n_gdn h 32
theorem t_is_u {bt : Nat → Nat} {i L w u : Nat} (hw : w < 25) (hu : u < 25) (h : t_is bt i L w) (g : t_is bt i L u) : w = u := by
  refine n_wl_ne w hw u hu ?_
  apply List.ext_getElem?
  intro k
  by_cases q : k < L
  · have e1 := h.2 k q
    have e2 := g.2 k q
    rw [n_gd (by rw [← h.1]; exact q)] at e1
    rw [n_gd (by rw [← g.1]; exact q)] at e2
    rw [List.getElem?_eq_getElem (by rw [← h.1]; exact q), List.getElem?_eq_getElem (by rw [← g.1]; exact q)]
    congr 1
    exact (show _ = _ from e1.symm).trans e2
  · rw [List.getElem?_eq_none (by rw [← h.1]; omega), List.getElem?_eq_none (by rw [← g.1]; omega)]
/-- a word is known by its number -/
theorem t_is_v {bt : Nat → Nat} {i L w : Nat} (hw : w < 25) (hl : ∀ k, k < L → t_lt (bt (i + k))) : t_is bt i L w ↔ n_kv w = n_vl bt i L := by
  have g : ∀ k, k < (n_wl.getD w []).length → 97 ≤ (n_wl.getD w []).getD (0 + k) 0 ∧ (n_wl.getD w []).getD (0 + k) 0 ≤ 122 := by
    intro k hk
    have := (n_wl_g hw k).1 hk
    rw [Nat.zero_add]
    have e : (n_wl.getD w []).getD k 0 = (n_wl.getD w []).getD k 32 := by
      rw [n_gd hk, n_gd hk]
    rw [e]; exact this
  have e0 : ∀ k, k < (n_wl.getD w []).length → (n_wl.getD w []).getD k 0 = (n_wl.getD w []).getD k 32 := fun k hk => by
    rw [n_gd hk, n_gd hk]
  constructor
  · rintro ⟨h1, h2⟩
    have key : ∀ q, q ≤ L → n_vl (fun k => (n_wl.getD w []).getD k 0) 0 q = n_vl bt i q := by
      intro q
      induction q with
      | zero => intro _; rfl
      | succ q ih =>
        intro hq
        rw [n_vl, n_vl, ih (by omega), h2 q (by omega), Nat.zero_add, e0 q (by omega)]
    rw [n_kv, ← h1]; exact key L (Nat.le_refl _)
  · intro h
    obtain ⟨a, b⟩ := n_vl_inj (bt := fun k => (n_wl.getD w []).getD k 0) (bu := bt) (i := 0) (j := i) g (fun k hk => hl k hk) h
    refine ⟨a.symm, fun k hk => ?_⟩
    rw [← b k (by omega), Nat.zero_add, e0 k (by omega)]
section T2
variable {σ μ : x_Hp} {n : Nat} {bt : Nat → Nat}
theorem c_word (h : t_tx σ μ n bt) {i e : Nat} (hie : i < e) (he : e ≤ n) (h8 : e - i ≤ 8) (hl : ∀ k, i ≤ k → k < e → t_lt (bt k)) : (∃ w, w < 25 ∧ t_is bt i (e - i) w ∧ F_X4_wordAt (nI i) (nI e) σ = some (nI w, σ)) ∨ ((∀ w, w < 25 → ¬ t_is bt i (e - i) w) ∧ F_X4_wordAt (nI i) (nI e) σ = some (-1, σ)) := by
  have h2000 := h.1
  -- one place of one word
  have one : ∀ (K : Int32 → Int32 → Int32 → x_Hp → Option (Int32 × x_Hp)) (w k f : Nat), w < 25 → k < 8 → F_X4_wordAt_14 K (f + 1) (nI i) (nI e) (nI w) 1 (nI k) σ = F_X4_wordAt_14 K f (nI i) (nI e) (nI w) (if (n_wl.getD w []).getD k 32 = (if e ≤ i + k then 32 else bt (i + k)) then 1 else 0) (nI (k + 1)) σ := by
    intro K w k f hw hk
    have ew : x_wch (nI (8 * w + k)) = nI ((n_wl.getD w []).getD k 32) := by rw [x_wch, x_ix_nI (by omega), n_wl_w w hw k hk]
    have hg : (n_wl.getD w []).getD k 32 < 256 := by
      by_cases q : k < (n_wl.getD w []).length
      · have := (n_wl_g hw k).1 q; omega
      · have := (n_wl_g hw k).2 q; omega
    have ix : nI w * (8 : Int32) + nI k = nI (8 * w + k) := by rw [show nI w * (8 : Int32) = nI (w * 8) from pk_mul w 8, nI_add, Nat.mul_comm]
    have k56 : ∀ c, c < 256 → F_X4_wordAt_56 K (F_X4_wordAt_14 K f) (nI i) (nI e) (nI w) (nI k) (nI (8 * w + k)) (nI c) σ = F_X4_wordAt_14 K f (nI i) (nI e) (nI w) (if (n_wl.getD w []).getD k 32 = c then 1 else 0) (nI (k + 1)) σ := by
      intro c hc
      rw [F_X4_wordAt_56, if_neg (nI_pos (by omega)), if_neg (show ¬ (200 : Int32) ≤ nI (8 * w + k) from nI_ge (b := 200) (by omega) (by decide)), x_gd_t (x_inb_nI (by omega) (by decide)), ew]
      by_cases q : (n_wl.getD w []).getD k 32 = c
      · rw [if_pos (by rw [q]), if_pos q, F_X4_wordAt_90, nI_1]
      · rw [if_neg (fun z => q ((nI_eq (by omega) (by omega)).mp z)), if_neg q, F_X4_wordAt_89, F_X4_wordAt_90, nI_1]
    rw [F_X4_wordAt_14, if_neg (show ¬ (8 : Int32) ≤ nI k from nI_ge (b := 8) hk (by decide)), if_neg (by decide), nI_add, ix]
    by_cases q : e ≤ i + k
    · rw [if_pos (nI_le q (by omega)), if_pos q]; exact k56 32 (by decide)
    · rw [if_neg (nI_ge (by omega) (by omega)), if_neg q, c_byte h (by omega), x_b_s]; exact k56 _ (h.2.2.2 (i + k) (by omega)).1
  have stop : ∀ (K : Int32 → Int32 → Int32 → x_Hp → Option (Int32 × x_Hp)) (w k f : Nat), k ≤ 8 → F_X4_wordAt_14 K (f + 1) (nI i) (nI e) (nI w) 0 (nI k) σ = K (nI i) (nI e) (nI (w + 1)) σ := by
    intro K w k f hk
    rw [F_X4_wordAt_14]
    by_cases q : (8 : Int32) ≤ nI k
    · rw [if_pos q, F_X4_wordAt_98, if_pos rfl, nI_1]
    · rw [if_neg q, if_pos rfl, F_X4_wordAt_98, if_pos rfl, nI_1]
  -- all places of one word
  have all : ∀ (K : Int32 → Int32 → Int32 → x_Hp → Option (Int32 × x_Hp)) (w : Nat), w < 25 → ∀ (d f k : Nat), k + d = 8 → d + 1 < f → ((∀ k', k ≤ k' → k' < 8 → (n_wl.getD w []).getD k' 32 = (if e ≤ i + k' then 32 else bt (i + k'))) → F_X4_wordAt_14 K f (nI i) (nI e) (nI w) 1 (nI k) σ = some (nI w, σ)) ∧ ((¬ ∀ k', k ≤ k' → k' < 8 → (n_wl.getD w []).getD k' 32 = (if e ≤ i + k' then 32 else bt (i + k'))) → F_X4_wordAt_14 K f (nI i) (nI e) (nI w) 1 (nI k) σ = K (nI i) (nI e) (nI (w + 1)) σ) := by
    intro K w hw d
    induction d with
    | zero =>
      intro f k h1 h2
      obtain ⟨f, rfl⟩ : ∃ m, f = m + 1 := ⟨f - 1, by omega⟩
      have : k = 8 := by omega
      subst this
      refine ⟨fun _ => ?_, fun q => absurd (fun k' a b => by omega) q⟩
      rw [F_X4_wordAt_14, if_pos (show (8 : Int32) ≤ nI 8 by decide), F_X4_wordAt_98, if_neg (by decide)]
    | succ d ih =>
      intro f k h1 h2
      obtain ⟨f, rfl⟩ : ∃ m, f = m + 2 := ⟨f - 2, by omega⟩
      obtain ⟨i1, i2⟩ := ih (f + 1) (k + 1) (by omega) (by omega)
      rw [one K w k (f + 1) hw (by omega)]
      by_cases q : (n_wl.getD w []).getD k 32 = (if e ≤ i + k then 32 else bt (i + k))
      · rw [if_pos q]
        refine ⟨fun ha => i1 (fun k' a b => ha k' (by omega) b), fun hn => i2 (fun ha => hn (fun k' a b => ?_))⟩
        by_cases z : k' = k
        · rw [z]; exact q
        · exact ha k' (by omega) b
      · rw [if_neg q, stop K w (k + 1) f (by omega)]
        exact ⟨fun ha => absurd (ha k (Nat.le_refl _) (by omega)) q, fun _ => rfl⟩
  have hm : ∀ w, w < 25 → ((∀ k', 0 ≤ k' → k' < 8 → (n_wl.getD w []).getD k' 32 = (if e ≤ i + k' then 32 else bt (i + k'))) ↔ t_is bt i (e - i) w) := by
    intro w hw
    have w7 := (n_wl_l w hw).1
    constructor
    · intro ha
      have hlen : e - i = (n_wl.getD w []).length := by
        rcases Nat.lt_trichotomy (e - i) (n_wl.getD w []).length with q | q | q
        · have := ha (e - i) (by omega) (by omega)
          rw [if_pos (by omega)] at this
          have g := (n_wl_g hw (e - i)).1 q
          omega
        · exact q
        · have := ha (n_wl.getD w []).length (by omega) (by omega)
          rw [if_neg (by omega), (n_wl_g hw _).2 (by omega)] at this
          have g := hl (i + (n_wl.getD w []).length) (by omega) (by omega)
          unfold t_lt at g
          omega
      refine ⟨hlen, fun k hk => ?_⟩
      have := ha k (by omega) (by omega)
      rw [if_neg (by omega)] at this
      exact this.symm
    · rintro ⟨a, b⟩ k' - hk
      by_cases q : k' < e - i
      · rw [if_neg (by omega), b k' q]
      · rw [if_pos (by omega), (n_wl_g hw k').2 (by omega)]
  -- word by word
  have loop : ∀ (d f w : Nat), w + d = 25 → d < f → (∀ u, u < w → ¬ t_is bt i (e - i) u) → (∃ w, w < 25 ∧ t_is bt i (e - i) w ∧ F_X4_wordAt_2 f (nI i) (nI e) (nI w) σ = F_X4_wordAt_2 f (nI i) (nI e) (nI w) σ ∧ ∃ f', F_X4_wordAt_2 f (nI i) (nI e) (nI (25 - d)) σ = some (nI w, f')∧ f' = σ) ∨ ((∀ u, u < 25 → ¬ t_is bt i (e - i) u) ∧ F_X4_wordAt_2 f (nI i) (nI e) (nI (25 - d)) σ = some (-1, σ)) := by
    intro d
    induction d with
    | zero =>
      intro f w h1 h2 h3
      obtain ⟨f, rfl⟩ : ∃ m, f = m + 1 := ⟨f - 1, by omega⟩
      right
      have : w = 25 := by omega
      subst this
      exact ⟨h3, by rw [F_X4_wordAt_2, if_pos (show (24 : Int32) < nI (25 - 0) by decide)]⟩
    | succ d ih =>
      intro f w h1 h2 h3
      obtain ⟨f, rfl⟩ : ∃ m, f = m + 1 := ⟨f - 1, by omega⟩
      have ew : 25 - (d + 1) = w := by omega
      rw [ew]
      obtain ⟨a1, a2⟩ := all (F_X4_wordAt_2 f) w (by omega) 8 x_fuel 0 (by omega) (by decide)
      rw [F_X4_wordAt_2, if_neg (show ¬ (24 : Int32) < nI w from nI_nlt (a := 24) (by omega) (by decide))]
      by_cases q : t_is bt i (e - i) w
      · left
        refine ⟨w, by omega, q, rfl, σ, ?_, rfl⟩
        exact a1 ((hm w (by omega)).mpr q)
      · have e2 : F_X4_wordAt_14 (F_X4_wordAt_2 f) x_fuel (nI i) (nI e) (nI w) 1 0 σ = F_X4_wordAt_2 f (nI i) (nI e) (nI (w + 1)) σ := a2 (fun z => q ((hm w (by omega)).mp z))
        rw [e2]
        have := ih f (w + 1) (by omega) (by omega) (fun u hu => by
          by_cases z : u = w
          · rw [z]; exact q
          · exact h3 u (by omega))
        rw [show 25 - d = w + 1 by omega] at this
        rcases this with ⟨w', p1, p2, -, p4⟩ | p
        · exact Or.inl ⟨w', p1, p2, rfl, p4⟩
        · exact Or.inr p
  have fin := loop 25 x_fuel 0 (by omega) (by decide) (fun u hu => absurd hu (Nat.not_lt_zero _))
  rw [F_X4_wordAt]
  rcases fin with ⟨w, p1, p2, -, f', p4, p5⟩ | ⟨p1, p2⟩
  · rw [p5] at p4
    exact Or.inl ⟨w, p1, p2, p4⟩
  · exact Or.inr ⟨p1, p2⟩
/-- the reference's keys -/
def y_keys (μ : x_Hp) : Prop := ∀ r, r < 25 → μ.2 7 r = lN (n_kv (n_wr.getD r 0))
theorem n_kv_lt : ∀ w, w < 25 → n_kv w < 2 ^ 62 := by decide +kernel
theorem y_key (hk : y_keys μ) {i L : Nat} (hL : L ≤ 7) (hl : ∀ k, k < L → t_lt (bt (i + k))) (K : Int32 → x_Hp → Option (Unit × x_Hp)) : ∀ (d f r : Nat) (x6 : Int32), r + d = 25 → d < f → (∀ w, w < 25 → t_is bt i L w → r ≤ n_kw.getD w 0 → F_X9_cut_146 K f (nI i) (nI L) (lN (n_vl bt i L)) x6 (nI r) μ = F_X9_cut_179 K (nI i) (nI L) (lN (n_vl bt i L)) (nI (20 + n_kw.getD w 0)) μ) ∧ ((∀ w, w < 25 → t_is bt i L w → n_kw.getD w 0 < r) → F_X9_cut_146 K f (nI i) (nI L) (lN (n_vl bt i L)) x6 (nI r) μ = F_X9_cut_179 K (nI i) (nI L) (lN (n_vl bt i L)) x6 μ) := by
  have hv : n_vl bt i L < 2 ^ 62 := by
    have := n_vl_lt (bt := bt) (i := i) L (fun k hk => (hl k hk).2)
    have h2 : 27 ^ L ≤ 27 ^ 7 := Nat.pow_le_pow_right (by decide) hL
    omega
  intro d
  induction d with
  | zero =>
    intro f r x6 h1 h2
    obtain ⟨f, rfl⟩ : ∃ m, f = m + 1 := ⟨f - 1, by omega⟩
    have : r = 25 := by omega
    subst this
    refine ⟨fun w hw _ q => ?_, fun _ => ?_⟩
    · have := (n_wr_kw w hw).1; omega
    · rw [F_X9_cut_146, if_pos (show (25 : Int32) ≤ nI 25 by decide)]
  | succ d ih =>
    intro f r x6 h1 h2
    obtain ⟨f, rfl⟩ : ∃ m, f = m + 1 := ⟨f - 1, by omega⟩
    obtain ⟨hr1, hr2⟩ := n_kw_wr r (by omega)
    have ec : (lg_cmp (μ.2 7 r) (lN (n_vl bt i L)) = 0) ↔ t_is bt i L (n_wr.getD r 0) := by
      rw [hk r (by omega), lg_cmp_eq, pk_lEQ (by have := n_kv_lt _ hr1; omega) (by omega), t_is_v hr1 hl]
    rw [F_X9_cut_146, if_neg (show ¬ (25 : Int32) ≤ nI r from nI_ge (b := 25) (by omega) (by decide)), x_gd_t (x_inb_nI (by omega) (by decide)), x_ix_nI (by omega), F_X9_cut_173, F_X9_cut_173, nI_1, show (20 : Int32) + nI r = nI (20 + r) from nI_add 20 r]
    by_cases q : t_is bt i L (n_wr.getD r 0)
    · rw [if_pos (ec.mpr q)]
      obtain ⟨i1, i2⟩ := ih f (r + 1) (nI (20 + r)) (by omega) (by omega)
      have un : ∀ w, w < 25 → t_is bt i L w → w = n_wr.getD r 0 := fun w hw hq => t_is_u hw hr1 hq q
      refine ⟨fun w hw hq _ => ?_, fun hn => ?_⟩
      · rw [i2 (fun w' hw' hq' => by rw [un w' hw' hq', hr2]; omega), un w hw hq, hr2]
      · have := hn _ hr1 q
        omega
    · rw [if_neg (fun z => q (ec.mp z))]
      obtain ⟨i1, i2⟩ := ih f (r + 1) x6 (by omega) (by omega)
      refine ⟨fun w hw hq hle => i1 w hw hq ?_, fun hn => i2 (fun w hw hq => by have := hn w hw hq; omega)⟩
      have : n_kw.getD w 0 ≠ r := by
        intro z
        have e := (n_wr_kw w hw).2
        rw [z] at e
        rw [e] at q
        exact q hq
      omega
end T2
