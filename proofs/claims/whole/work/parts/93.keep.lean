/-! WHAT THE MODEL'S METHODS BUT read LEAVE ALONE: all longs, and field 44 of its object -/
def kR (μ σ : x_Hp) : Prop := σ.2 = μ.2 ∧ σ.1 0 44 = μ.1 0 44
def kp {α : Type} (μ : x_Hp) (A : Option (α × x_Hp)) : Prop := ∀ (r : α) (ν : x_Hp), A = some (r, ν) → kR μ ν
theorem kR.rfl' {μ : x_Hp} : kR μ μ := ⟨rfl, rfl⟩
theorem kR.pI {μ σ : x_Hp} {o k : Nat} {v : Int32} (h : kR μ σ) (hn : ¬ (o = 0 ∧ k = 44)) : kR μ (x_pI σ o k v) :=
  ⟨h.1, by rw [x_pI_1, if_neg (fun q => hn ⟨q.1.symm, q.2.symm⟩)]; exact h.2⟩
theorem kp_none {α : Type} {μ : x_Hp} : kp μ (none : Option (α × x_Hp)) := fun r ν h => by cases h
theorem kp_ret {α : Type} {μ σ : x_Hp} {r : α} (h : kR μ σ) : kp μ (some (r, σ)) := fun r' ν e => by cases e; exact h
theorem kp_gd {α : Type} {μ : x_Hp} {b : Bool} {A : Option (α × x_Hp)} (h : kp μ A) : kp μ (x_gd b A) := fun r ν e => h r ν (x_gd_some e).2
theorem kp_if {α : Type} {μ : x_Hp} {c : Prop} [Decidable c] {A B : Option (α × x_Hp)} (h1 : kp μ A) (h2 : kp μ B) : kp μ (if c then A else B) := by
  split
  · exact h1
  · exact h2
theorem kp_pt {α : Type} {μ σ : x_Hp} {f : x_Hp → Option (α × x_Hp)} (h : kR μ σ) (k : ∀ σ1, kR μ σ1 → kp μ (f σ1)) : kp μ (x_pt σ f) := k σ h
theorem kp_b {α β : Type} {μ : x_Hp} {A : Option (α × x_Hp)} {f : α → x_Hp → Option (β × x_Hp)} (h : kp μ A) (k : ∀ v σ1, kR μ σ1 → kp μ (f v σ1)) : kp μ (x_b A f) := fun r ν e => by
  obtain ⟨a, σ1, e1, e2⟩ := x_b_some e
  exact k a σ1 (h a σ1 e1) r ν e2
theorem kp_X9_put_3 {μ : x_Hp} : ∀ (n : Nat) (x1 : Int32) (x2 : Int32) {σ : x_Hp}, kR μ σ → kp μ (F_X9_put_3 n x1 x2 σ) := by
  intro n
  induction n with
  | zero =>
    intros
    rw [F_X9_put_3]
    exact kp_none
  | succ n ih =>
    intro x1 x2 σ hσ
    rw [F_X9_put_3]
    exact kp_if (kp_ret hσ) (kp_gd (kp_pt (kR.pI hσ (fun q => absurd q.1 (by decide))) (fun σ2 hσ2 => kp_pt (kR.pI hσ2 (fun q => absurd q.2 (by decide))) (fun σ3 hσ3 => ih _ _ hσ3))))
theorem kp_X9_put {μ : x_Hp} (x1 : Int32) {σ : x_Hp} (hσ : kR μ σ) : kp μ (F_X9_put x1 σ) := by
  rw [F_X9_put]
  exact kp_X9_put_3  _ _ _ hσ
theorem kp_X9_feed {μ : x_Hp} (x1 : Int32) (x2 : Int32) (x3 : Int32) (x4 : Int32) (x5 : Int32) {σ : x_Hp} (hσ : kR μ σ) : kp μ (F_X9_feed x1 x2 x3 x4 x5 σ) := by
  rw [F_X9_feed]
  exact kp_if (kp_b (kp_X9_put  _ hσ) (fun _ σ1 hσ1 => kp_b (kp_X9_put  _ hσ1) (fun _ σ2 hσ2 => kp_b (kp_X9_put  _ hσ2) (fun _ σ3 hσ3 => kp_b (kp_X9_put  _ hσ3) (fun _ σ4 hσ4 => kp_b (kp_X9_put  _ hσ4) (fun _ σ5 hσ5 => kp_ret hσ5)))))) (kp_ret hσ)
theorem kp_X9_back {μ : x_Hp} (x1 : Int32) {σ : x_Hp} (hσ : kR μ σ) : kp μ (F_X9_back x1 σ) := by
  rw [F_X9_back]
  exact kp_if (kp_ret hσ) (kp_if (kp_pt (kR.pI hσ (fun q => absurd q.2 (by decide))) (fun σ1 hσ1 => kp_ret hσ1)) (kp_ret hσ))
theorem kp_X9_plainly {μ : x_Hp} {σ : x_Hp} (hσ : kR μ σ) : kp μ (F_X9_plainly σ) := by
  rw [F_X9_plainly]
  exact kp_gd (kp_pt (kR.pI hσ (fun q => absurd q.2 (by decide))) (fun σ2 hσ2 => kp_pt (kR.pI hσ2 (fun q => absurd q.2 (by decide))) (fun σ3 hσ3 => kp_pt (kR.pI hσ3 (fun q => absurd q.2 (by decide))) (fun σ4 hσ4 => kp_ret hσ4))))
theorem kp_X9_begins_118 {μ : x_Hp} (s0 : Int32) (s1 : Int32) {σ : x_Hp} (hσ : kR μ σ) : kp μ (F_X9_begins_118 s0 s1 σ) := by
  rw [F_X9_begins_118]
  exact kp_gd (kp_pt (kR.pI hσ (fun q => absurd q.1 (by decide))) (fun σ13 hσ13 => kp_b (kp_X9_plainly   hσ13) (fun _ σ14 hσ14 => kp_ret hσ14)))
theorem kp_X9_begins_76 {μ : x_Hp} (s0 : Int32) (s1 : Int32) {σ : x_Hp} (hσ : kR μ σ) : kp μ (F_X9_begins_76 s0 s1 σ) := by
  rw [F_X9_begins_76]
  exact kp_gd (kp_pt (kR.pI hσ (fun q => absurd q.1 (by decide))) (fun σ8 hσ8 => kp_pt (kR.pI hσ8 (fun q => absurd q.1 (by decide))) (fun σ9 hσ9 => kp_pt (kR.pI hσ9 (fun q => absurd q.1 (by decide))) (fun σ10 hσ10 => kp_gd (kp_if (kp_X9_begins_118  _ _ hσ10) (kp_X9_begins_118  _ _ hσ10))))))
theorem kp_X9_begins_23 {μ : x_Hp} : ∀ (n : Nat) (x1 : Int32) {σ : x_Hp}, kR μ σ → kp μ (F_X9_begins_23 n x1 σ) := by
  intro n
  induction n with
  | zero =>
    intros
    rw [F_X9_begins_23]
    exact kp_none
  | succ n ih =>
    intro x1 σ hσ
    rw [F_X9_begins_23]
    exact kp_if (kp_gd (kp_if (kp_X9_begins_76  _ _ hσ) (kp_X9_begins_76  _ _ hσ))) (kp_gd (kp_gd (kp_pt (kR.pI hσ (fun q => absurd q.1 (by decide))) (fun σ6 hσ6 => ih _ hσ6))))
theorem kp_X9_begins_2 {μ : x_Hp} : ∀ (n : Nat) (x1 : Int32) {σ : x_Hp}, kR μ σ → kp μ (F_X9_begins_2 n x1 σ) := by
  intro n
  induction n with
  | zero =>
    intros
    rw [F_X9_begins_2]
    exact kp_none
  | succ n ih =>
    intro x1 σ hσ
    rw [F_X9_begins_2]
    exact kp_if (kp_X9_begins_23  _ _ hσ) (kp_gd (kp_pt (kR.pI hσ (fun q => absurd q.1 (by decide))) (fun σ2 hσ2 => ih _ hσ2)))
theorem kp_X9_begins {μ : x_Hp} {σ : x_Hp} (hσ : kR μ σ) : kp μ (F_X9_begins σ) := by
  rw [F_X9_begins]
  exact kp_X9_begins_2  _ _ hσ
theorem kp_X9_keepsRow_2 {μ : x_Hp} : ∀ (n : Nat) (x1 : Int32) {σ : x_Hp}, kR μ σ → kp μ (F_X9_keepsRow_2 n x1 σ) := by
  intro n
  induction n with
  | zero =>
    intros
    rw [F_X9_keepsRow_2]
    exact kp_none
  | succ n ih =>
    intro x1 σ hσ
    rw [F_X9_keepsRow_2]
    exact kp_if (kp_ret hσ) (kp_gd (kp_gd (kp_pt (kR.pI hσ (fun q => absurd q.1 (by decide))) (fun σ3 hσ3 => ih _ hσ3))))
theorem kp_X9_keepsRow {μ : x_Hp} {σ : x_Hp} (hσ : kR μ σ) : kp μ (F_X9_keepsRow σ) := by
  rw [F_X9_keepsRow]
  exact kp_X9_keepsRow_2  _ _ hσ
theorem kp_X9_place {μ : x_Hp} {σ : x_Hp} (hσ : kR μ σ) : kp μ (F_X9_place σ) := by
  rw [F_X9_place]
  exact kp_ret hσ
theorem kp_X9_termOf_159 {μ : x_Hp} {k5 : Int32 → Int32 → Int32 → x_Hp → Option (Int32 × x_Hp)} (hk5 : ∀ a0 a1 a2 σ, kR μ σ → kp μ (k5 a0 a1 a2 σ)) (x2 : Int32) (x3 : Int32) (x4 : Int32) {σ : x_Hp} (hσ : kR μ σ) : kp μ (F_X9_termOf_159 k5 x2 x3 x4 σ) := by
  rw [F_X9_termOf_159]
  exact hk5 _ _ _ _ hσ
theorem kp_X9_termOf_158 {μ : x_Hp} {k5 : Int32 → Int32 → Int32 → x_Hp → Option (Int32 × x_Hp)} (hk5 : ∀ a0 a1 a2 σ, kR μ σ → kp μ (k5 a0 a1 a2 σ)) (x2 : Int32) (x3 : Int32) (x4 : Int32) (s0 : Int32) (s1 : Int32) {σ : x_Hp} (hσ : kR μ σ) : kp μ (F_X9_termOf_158 k5 x2 x3 x4 s0 s1 σ) := by
  rw [F_X9_termOf_158]
  exact kp_gd (kp_pt (kR.pI hσ (fun q => absurd q.1 (by decide))) (fun σ11 hσ11 => kp_X9_termOf_159 hk5 _ _ _ hσ11))
theorem kp_X9_termOf_104 {μ : x_Hp} {k5 : Int32 → Int32 → Int32 → x_Hp → Option (Int32 × x_Hp)} (hk5 : ∀ a0 a1 a2 σ, kR μ σ → kp μ (k5 a0 a1 a2 σ)) (x2 : Int32) (x3 : Int32) (x4 : Int32) (x5 : Int32) (x6 : Int32) (x7 : Int32) {σ : x_Hp} (hσ : kR μ σ) : kp μ (F_X9_termOf_104 k5 x2 x3 x4 x5 x6 x7 σ) := by
  rw [F_X9_termOf_104]
  exact kp_if (kp_X9_termOf_158 hk5 _ _ _ _ _ hσ) (kp_if (kp_X9_termOf_158 hk5 _ _ _ _ _ hσ) (kp_if (kp_X9_termOf_158 hk5 _ _ _ _ _ hσ) (kp_gd (kp_X9_termOf_158 hk5 _ _ _ _ _ hσ))))
theorem kp_X9_termOf_58 {μ : x_Hp} {k5 : Int32 → Int32 → Int32 → x_Hp → Option (Int32 × x_Hp)} (hk5 : ∀ a0 a1 a2 σ, kR μ σ → kp μ (k5 a0 a1 a2 σ)) (x2 : Int32) (x3 : Int32) (x4 : Int32) (s0 : Int32) (s1 : Int32) {σ : x_Hp} (hσ : kR μ σ) : kp μ (F_X9_termOf_58 k5 x2 x3 x4 s0 s1 σ) := by
  rw [F_X9_termOf_58]
  exact kp_gd (kp_pt (kR.pI hσ (fun q => absurd q.1 (by decide))) (fun σ9 hσ9 => kp_X9_termOf_159 hk5 _ _ _ hσ9))
theorem kp_X9_termOf_5 {μ : x_Hp} : ∀ (n : Nat) (x2 : Int32) (x3 : Int32) (x4 : Int32) {σ : x_Hp}, kR μ σ → kp μ (F_X9_termOf_5 n x2 x3 x4 σ) := by
  intro n
  induction n with
  | zero =>
    intros
    rw [F_X9_termOf_5]
    exact kp_none
  | succ n ih =>
    intro x2 x3 x4 σ hσ
    rw [F_X9_termOf_5]
    exact kp_if (kp_ret hσ) (kp_gd (kp_if (kp_gd (kp_gd (kp_if (kp_if (kp_pt (kR.pI hσ (fun q => absurd q.2 (by decide))) (fun σ4 hσ4 => kp_ret hσ4)) (kp_X9_termOf_104 ih _ _ _ _ _ _ hσ)) (kp_X9_termOf_104 ih _ _ _ _ _ _ hσ)))) (kp_if (kp_gd (kp_X9_termOf_58 ih _ _ _ _ _ hσ)) (kp_gd (kp_gd (kp_X9_termOf_58 ih _ _ _ _ _ hσ))))))
theorem kp_X9_termOf {μ : x_Hp} (x1 : Int32) (x2 : Int32) {σ : x_Hp} (hσ : kR μ σ) : kp μ (F_X9_termOf x1 x2 σ) := by
  rw [F_X9_termOf]
  exact kp_X9_termOf_5  _ _ _ _ hσ
theorem kp_X9_in {μ : x_Hp} (x0 : Int32) (x1 : Int32) (x2 : Int32) {σ : x_Hp} (hσ : kR μ σ) : kp μ (F_X9_in x0 x1 x2 σ) := by
  rw [F_X9_in]
  exact kp_if (kp_ret hσ) (kp_if (kp_ret hσ) (kp_ret hσ))
theorem kp_X9_copies_2 {μ : x_Hp} : ∀ (n : Nat) (x1 : Int32) {σ : x_Hp}, kR μ σ → kp μ (F_X9_copies_2 n x1 σ) := by
  intro n
  induction n with
  | zero =>
    intros
    rw [F_X9_copies_2]
    exact kp_none
  | succ n ih =>
    intro x1 σ hσ
    rw [F_X9_copies_2]
    exact kp_if (kp_b (kp_X9_plainly   hσ) (fun _ σ1 hσ1 => kp_ret hσ1)) (kp_gd (kp_gd (kp_pt (kR.pI hσ (fun q => absurd q.1 (by decide))) (fun σ4 hσ4 => ih _ hσ4))))
theorem kp_X9_copies {μ : x_Hp} {σ : x_Hp} (hσ : kR μ σ) : kp μ (F_X9_copies σ) := by
  rw [F_X9_copies]
  exact kp_X9_copies_2  _ _ hσ
theorem kp_X9_mixed {μ : x_Hp} (x0 : Int32) (x1 : Int32) {σ : x_Hp} (hσ : kR μ σ) : kp μ (F_X9_mixed x0 x1 σ) := by
  rw [F_X9_mixed]
  exact kp_ret hσ
theorem kp_X9_lotNow {μ : x_Hp} {σ : x_Hp} (hσ : kR μ σ) : kp μ (F_X9_lotNow σ) := by
  rw [F_X9_lotNow]
  exact kp_b (kp_X9_mixed  _ _ hσ) (fun v1 σ1 hσ1 => kp_b (kp_X9_mixed  _ _ hσ1) (fun v2 σ2 hσ2 => kp_ret hσ2))
theorem kp_X9_held {μ : x_Hp} (x0 : Int32) (x1 : Int32) (x2 : Int32) {σ : x_Hp} (hσ : kR μ σ) : kp μ (F_X9_held x0 x1 x2 σ) := by
  rw [F_X9_held]
  exact kp_if (kp_if (kp_ret hσ) (kp_ret hσ)) (kp_ret hσ)
theorem kp_X9_tells_257 {μ : x_Hp} (x3 : Int32) (x4 : Int32) (x7 : Int32) {σ : x_Hp} (hσ : kR μ σ) : kp μ (F_X9_tells_257 x3 x4 x7 σ) := by
  rw [F_X9_tells_257]
  exact kp_gd (kp_gd (kp_b (kp_X9_termOf  _ _ hσ) (fun v27 σ27 hσ27 => kp_if (kp_b (kp_X9_held  _ _ _ hσ27) (fun v28 σ28 hσ28 => kp_ret hσ28)) (kp_ret hσ27))))
theorem kp_X9_tells_176 {μ : x_Hp} : ∀ (n : Nat) (x3 : Int32) (x4 : Int32) (x5 : Int32) (x7 : Int32) {σ : x_Hp}, kR μ σ → kp μ (F_X9_tells_176 n x3 x4 x5 x7 σ) := by
  intro n
  induction n with
  | zero =>
    intros
    rw [F_X9_tells_176]
    exact kp_none
  | succ n ih =>
    intro x3 x4 x5 x7 σ hσ
    rw [F_X9_tells_176]
    exact kp_gd (kp_if (kp_ret hσ) (kp_gd (kp_if (kp_X9_tells_257  _ _ _ hσ) (kp_gd (kp_gd (kp_b (kp_X9_termOf  _ _ hσ) (fun v21 σ21 hσ21 => kp_gd (kp_gd (kp_b (kp_X9_termOf  _ _ hσ21) (fun v24 σ24 hσ24 => kp_if (kp_if (kp_X9_tells_257  _ _ _ hσ24) (ih _ _ _ _ hσ24)) (kp_ret hσ24)))))))))))
theorem kp_X9_tells_119 {μ : x_Hp} (x3 : Int32) (x4 : Int32) (x5 : Int32) (x6 : Int32) (s0 : Int32) (s1 : Int32) {σ : x_Hp} (hσ : kR μ σ) : kp μ (F_X9_tells_119 x3 x4 x5 x6 s0 s1 σ) := by
  rw [F_X9_tells_119]
  exact kp_gd (kp_pt (kR.pI hσ (fun q => absurd q.1 (by decide))) (fun σ9 hσ9 => kp_gd (kp_pt (kR.pI hσ9 (fun q => absurd q.1 (by decide))) (fun σ11 hσ11 => kp_gd (kp_pt (kR.pI hσ11 (fun q => absurd q.1 (by decide))) (fun σ13 hσ13 => kp_pt (kR.pI hσ13 (fun q => absurd q.1 (by decide))) (fun σ14 hσ14 => kp_pt (kR.pI hσ14 (fun q => absurd q.2 (by decide))) (fun σ15 hσ15 => kp_gd (kp_X9_tells_176  _ _ _ _ _ hσ15)))))))))
theorem kp_X9_tells_49 {μ : x_Hp} : ∀ (n : Nat) (x3 : Int32) (x4 : Int32) (x5 : Int32) (x6 : Int32) (x7 : Int32) {σ : x_Hp}, kR μ σ → kp μ (F_X9_tells_49 n x3 x4 x5 x6 x7 σ) := by
  intro n
  induction n with
  | zero =>
    intros
    rw [F_X9_tells_49]
    exact kp_none
  | succ n ih =>
    intro x3 x4 x5 x6 x7 σ hσ
    rw [F_X9_tells_49]
    exact kp_if (kp_pt (kR.pI hσ (fun q => absurd q.1 (by decide))) (fun σ3 hσ3 => kp_if (kp_X9_tells_119  _ _ _ _ _ _ hσ3) (kp_gd (kp_X9_tells_119  _ _ _ _ _ _ hσ3)))) (kp_gd (kp_gd (kp_pt (kR.pI hσ (fun q => absurd q.1 (by decide))) (fun σ7 hσ7 => ih _ _ _ _ _ hσ7))))
theorem kp_X9_tells {μ : x_Hp} (x1 : Int32) (x2 : Int32) (x3 : Int32) (x4 : Int32) {σ : x_Hp} (hσ : kR μ σ) : kp μ (F_X9_tells x1 x2 x3 x4 σ) := by
  rw [F_X9_tells]
  exact kp_gd (kp_gd (kp_if (kp_ret hσ) (kp_X9_tells_49  _ _ _ _ _ _ hσ)))
theorem kp_X9_lawNow_17 {μ : x_Hp} (s0 : Int32) (s1 : Int32) {σ : x_Hp} (hσ : kR μ σ) : kp μ (F_X9_lawNow_17 s0 s1 σ) := by
  rw [F_X9_lawNow_17]
  exact kp_b (kp_X9_tells  _ _ _ _ hσ) (fun v4 σ4 hσ4 => kp_ret hσ4)
theorem kp_X9_lawNow {μ : x_Hp} (x1 : Int32) {σ : x_Hp} (hσ : kR μ σ) : kp μ (F_X9_lawNow x1 σ) := by
  rw [F_X9_lawNow]
  exact kp_if (kp_if (kp_b (kp_X9_tells  _ _ _ _ hσ) (fun v3 σ3 hσ3 => kp_ret hσ3)) (kp_if (kp_b (kp_X9_tells  _ _ _ _ hσ) (fun v2 σ2 hσ2 => kp_ret hσ2)) (kp_b (kp_X9_tells  _ _ _ _ hσ) (fun v1 σ1 hσ1 => kp_ret hσ1)))) (kp_if (kp_X9_lawNow_17  _ _ hσ) (kp_X9_lawNow_17  _ _ hσ))
theorem kp_X9_fallsAsleep {μ : x_Hp} {σ : x_Hp} (hσ : kR μ σ) : kp μ (F_X9_fallsAsleep σ) := by
  rw [F_X9_fallsAsleep]
  exact kp_pt (kR.pI hσ (fun q => absurd q.1 (by decide))) (fun σ1 hσ1 => kp_pt (kR.pI hσ1 (fun q => absurd q.1 (by decide))) (fun σ2 hσ2 => kp_ret hσ2))
theorem kp_X9_wakeMinute_262 {μ : x_Hp} {σ : x_Hp} (hσ : kR μ σ) : kp μ (F_X9_wakeMinute_262 σ) := by
  rw [F_X9_wakeMinute_262]
  exact kp_b (kp_X9_lawNow  _ hσ) (fun v35 σ35 hσ35 => kp_if (kp_ret hσ35) (kp_b (kp_X9_fallsAsleep   hσ35) (fun _ σ36 hσ36 => kp_ret hσ36)))
theorem kp_X9_wakeMinute_169 {μ : x_Hp} (x1 : Int32) {σ : x_Hp} (hσ : kR μ σ) : kp μ (F_X9_wakeMinute_169 x1 σ) := by
  rw [F_X9_wakeMinute_169]
  exact kp_b (kp_X9_lotNow   hσ) (fun v23 σ23 hσ23 => kp_b (kp_X9_lawNow  _ hσ23) (fun v24 σ24 hσ24 => kp_if (kp_X9_wakeMinute_262   hσ24) (kp_pt (kR.pI hσ24 (fun q => absurd q.1 (by decide))) (fun σ25 hσ25 => kp_gd (kp_gd (kp_pt (kR.pI hσ25 (fun q => absurd q.1 (by decide))) (fun σ28 hσ28 => kp_if (kp_gd (kp_pt (kR.pI hσ28 (fun q => absurd q.1 (by decide))) (fun σ30 hσ30 => kp_gd (kp_gd (kp_gd (kp_pt (kR.pI hσ30 (fun q => absurd q.1 (by decide))) (fun σ34 hσ34 => kp_X9_wakeMinute_262   hσ34))))))) (kp_X9_wakeMinute_262   hσ28))))))))
theorem kp_X9_wakeMinute_33 {μ : x_Hp} : ∀ (n : Nat) (x1 : Int32) (x2 : Int32) {σ : x_Hp}, kR μ σ → kp μ (F_X9_wakeMinute_33 n x1 x2 σ) := by
  intro n
  induction n with
  | zero =>
    intros
    rw [F_X9_wakeMinute_33]
    exact kp_none
  | succ n ih =>
    intro x1 x2 σ hσ
    rw [F_X9_wakeMinute_33]
    exact kp_if (kp_pt (kR.pI hσ (fun q => absurd q.1 (by decide))) (fun σ4 hσ4 => kp_b (kp_X9_lawNow  _ hσ4) (fun v5 σ5 hσ5 => kp_pt (kR.pI hσ5 (fun q => absurd q.1 (by decide))) (fun σ6 hσ6 => kp_pt (kR.pI hσ6 (fun q => absurd q.1 (by decide))) (fun σ7 hσ7 => kp_gd (kp_gd (kp_pt (kR.pI hσ7 (fun q => absurd q.1 (by decide))) (fun σ10 hσ10 => kp_gd (kp_gd (kp_pt (kR.pI hσ10 (fun q => absurd q.1 (by decide))) (fun σ13 hσ13 => kp_if (kp_if (kp_X9_wakeMinute_169  _ hσ13) (kp_pt (kR.pI hσ13 (fun q => absurd q.1 (by decide))) (fun σ14 hσ14 => kp_gd (kp_gd (kp_pt (kR.pI hσ14 (fun q => absurd q.1 (by decide))) (fun σ17 hσ17 => kp_X9_wakeMinute_169  _ hσ17)))))) (kp_X9_wakeMinute_169  _ hσ13)))))))))))) (kp_gd (kp_gd (kp_b (kp_X9_held  _ _ _ hσ) (fun v20 σ20 hσ20 => kp_gd (kp_pt (kR.pI hσ20 (fun q => absurd q.1 (by decide))) (fun σ22 hσ22 => ih _ _ hσ22))))))
theorem kp_X9_wakeMinute_9 {μ : x_Hp} : ∀ (n : Nat) (x1 : Int32) (x2 : Int32) {σ : x_Hp}, kR μ σ → kp μ (F_X9_wakeMinute_9 n x1 x2 σ) := by
  intro n
  induction n with
  | zero =>
    intros
    rw [F_X9_wakeMinute_9]
    exact kp_none
  | succ n ih =>
    intro x1 x2 σ hσ
    rw [F_X9_wakeMinute_9]
    exact kp_if (kp_X9_wakeMinute_33  _ _ _ hσ) (kp_b (kp_X9_lawNow  _ hσ) (fun v1 σ1 hσ1 => kp_gd (kp_pt (kR.pI hσ1 (fun q => absurd q.1 (by decide))) (fun σ3 hσ3 => ih _ _ hσ3))))
theorem kp_X9_wakeMinute {μ : x_Hp} {σ : x_Hp} (hσ : kR μ σ) : kp μ (F_X9_wakeMinute σ) := by
  rw [F_X9_wakeMinute]
  exact kp_X9_wakeMinute_9  _ _ _ hσ
theorem kp_X9_sleepMinute {μ : x_Hp} {σ : x_Hp} (hσ : kR μ σ) : kp μ (F_X9_sleepMinute σ) := by
  rw [F_X9_sleepMinute]
  exact kp_b (kp_X9_lawNow  _ hσ) (fun v1 σ1 hσ1 => kp_b (kp_X9_held  _ _ _ hσ1) (fun v2 σ2 hσ2 => kp_pt (kR.pI hσ2 (fun q => absurd q.1 (by decide))) (fun σ3 hσ3 => kp_gd (kp_gd (kp_pt (kR.pI hσ3 (fun q => absurd q.1 (by decide))) (fun σ6 hσ6 => kp_pt (kR.pI hσ6 (fun q => absurd q.1 (by decide))) (fun σ7 hσ7 => kp_pt (kR.pI hσ7 (fun q => absurd q.1 (by decide))) (fun σ8 hσ8 => kp_if (kp_pt (kR.pI hσ8 (fun q => absurd q.1 (by decide))) (fun σ9 hσ9 => kp_pt (kR.pI hσ9 (fun q => absurd q.1 (by decide))) (fun σ10 hσ10 => kp_ret hσ10))) (kp_ret hσ8)))))))))
theorem kp_X9_minuteGoes_30 {μ : x_Hp} {σ : x_Hp} (hσ : kR μ σ) : kp μ (F_X9_minuteGoes_30 σ) := by
  rw [F_X9_minuteGoes_30]
  exact kp_pt (kR.pI hσ (fun q => absurd q.1 (by decide))) (fun σ3 hσ3 => kp_ret hσ3)
theorem kp_X9_minuteGoes {μ : x_Hp} {σ : x_Hp} (hσ : kR μ σ) : kp μ (F_X9_minuteGoes σ) := by
  rw [F_X9_minuteGoes]
  exact kp_if (kp_X9_minuteGoes_30   hσ) (kp_if (kp_b (kp_X9_wakeMinute   hσ) (fun _ σ1 hσ1 => kp_X9_minuteGoes_30   hσ1)) (kp_b (kp_X9_sleepMinute   hσ) (fun _ σ2 hσ2 => kp_X9_minuteGoes_30   hσ2)))
theorem kp_X9_goes_2 {μ : x_Hp} : ∀ (n : Nat) (x1 : Int32) (x2 : Int32) {σ : x_Hp}, kR μ σ → kp μ (F_X9_goes_2 n x1 x2 σ) := by
  intro n
  induction n with
  | zero =>
    intros
    rw [F_X9_goes_2]
    exact kp_none
  | succ n ih =>
    intro x1 x2 σ hσ
    rw [F_X9_goes_2]
    exact kp_if (kp_ret hσ) (kp_b (kp_X9_minuteGoes   hσ) (fun _ σ1 hσ1 => ih _ _ hσ1))
theorem kp_X9_goes {μ : x_Hp} (x1 : Int32) {σ : x_Hp} (hσ : kR μ σ) : kp μ (F_X9_goes x1 σ) := by
  rw [F_X9_goes]
  exact kp_X9_goes_2  _ _ _ hσ
theorem kp_X9_hands_50 {μ : x_Hp} (x1 : Int32) {σ : x_Hp} (hσ : kR μ σ) : kp μ (F_X9_hands_50 x1 σ) := by
  rw [F_X9_hands_50]
  exact kp_pt (kR.pI hσ (fun q => absurd q.1 (by decide))) (fun σ4 hσ4 => kp_pt (kR.pI hσ4 (fun q => absurd q.1 (by decide))) (fun σ5 hσ5 => kp_pt (kR.pI hσ5 (fun q => absurd q.1 (by decide))) (fun σ6 hσ6 => kp_pt (kR.pI hσ6 (fun q => absurd q.1 (by decide))) (fun σ7 hσ7 => kp_pt (kR.pI hσ7 (fun q => absurd q.1 (by decide))) (fun σ8 hσ8 => kp_pt (kR.pI hσ8 (fun q => absurd q.1 (by decide))) (fun σ9 hσ9 => kp_ret hσ9))))))
theorem kp_X9_hands {μ : x_Hp} (x1 : Int32) {σ : x_Hp} (hσ : kR μ σ) : kp μ (F_X9_hands x1 σ) := by
  rw [F_X9_hands]
  exact kp_if (kp_X9_hands_50  _ hσ) (kp_if (kp_X9_hands_50  _ hσ) (kp_gd (kp_b (kp_X9_held  _ _ _ hσ) (fun v2 σ2 hσ2 => kp_pt (kR.pI hσ2 (fun q => absurd q.1 (by decide))) (fun σ3 hσ3 => kp_X9_hands_50  _ hσ3)))))
theorem kp_X9_isAunt {μ : x_Hp} (x1 : Int32) {σ : x_Hp} (hσ : kR μ σ) : kp μ (F_X9_isAunt x1 σ) := by
  rw [F_X9_isAunt]
  exact kp_gd (kp_b (kp_X9_in  _ _ _ hσ) (fun v2 σ2 hσ2 => kp_gd (kp_ret hσ2)))
theorem kp_X9_isAwake {μ : x_Hp} {σ : x_Hp} (hσ : kR μ σ) : kp μ (F_X9_isAwake σ) := by
  rw [F_X9_isAwake]
  exact kp_if (kp_ret hσ) (kp_if (kp_ret hσ) (kp_ret hσ))
theorem kp_X9_cries {μ : x_Hp} (x1 : Int32) {σ : x_Hp} (hσ : kR μ σ) : kp μ (F_X9_cries x1 σ) := by
  rw [F_X9_cries]
  exact kp_b (kp_X9_goes  _ hσ) (fun _ σ1 hσ1 => kp_ret hσ1)
theorem kp_X9_now {μ : x_Hp} (x1 : Int32) {σ : x_Hp} (hσ : kR μ σ) : kp μ (F_X9_now x1 σ) := by
  rw [F_X9_now]
  exact kp_b (kp_X9_in  _ _ _ hσ) (fun v1 σ1 hσ1 => kp_if (kp_ret hσ1) (kp_gd (kp_ret hσ1)))
theorem kp_X9_aunt_52 {μ : x_Hp} (x1 : Int32) (x2 : Int32) {σ : x_Hp} (hσ : kR μ σ) : kp μ (F_X9_aunt_52 x1 x2 σ) := by
  rw [F_X9_aunt_52]
  exact kp_gd (kp_ret hσ)
theorem kp_X9_aunt {μ : x_Hp} (x1 : Int32) (x2 : Int32) {σ : x_Hp} (hσ : kR μ σ) : kp μ (F_X9_aunt x1 x2 σ) := by
  rw [F_X9_aunt]
  exact kp_b (kp_X9_isAunt  _ hσ) (fun v1 σ1 hσ1 => kp_if (kp_ret hσ1) (kp_if (kp_X9_aunt_52  _ _ hσ1) (kp_if (kp_X9_aunt_52  _ _ hσ1) (kp_if (kp_X9_aunt_52  _ _ hσ1) (kp_if (kp_X9_aunt_52  _ _ hσ1) (kp_if (kp_X9_aunt_52  _ _ hσ1) (kp_if (kp_gd (kp_ret hσ1)) (kp_if (kp_gd (kp_ret hσ1)) (kp_ret hσ1)))))))))
theorem kp_X9_law {μ : x_Hp} (x1 : Int32) {σ : x_Hp} (hσ : kR μ σ) : kp μ (F_X9_law x1 σ) := by
  rw [F_X9_law]
  exact kp_b (kp_X9_in  _ _ _ hσ) (fun v1 σ1 hσ1 => kp_if (kp_ret hσ1) (kp_gd (kp_if (kp_ret hσ1) (kp_b (kp_X9_copies   hσ1) (fun _ σ3 hσ3 => kp_b (kp_X9_lawNow  _ hσ3) (fun v4 σ4 hσ4 => kp_ret hσ4))))))
theorem kp_X9_keeps_51 {μ : x_Hp} : ∀ (n : Nat) (x1 : Int32) {σ : x_Hp}, kR μ σ → kp μ (F_X9_keeps_51 n x1 σ) := by
  intro n
  induction n with
  | zero =>
    intros
    rw [F_X9_keeps_51]
    exact kp_none
  | succ n ih =>
    intro x1 σ hσ
    rw [F_X9_keeps_51]
    exact kp_if (kp_pt (kR.pI hσ (fun q => absurd q.2 (by decide))) (fun σ5 hσ5 => kp_b (kp_X9_keepsRow   hσ5) (fun _ σ6 hσ6 => kp_ret hσ6))) (kp_gd (kp_gd (kp_pt (kR.pI hσ (fun q => absurd q.1 (by decide))) (fun σ9 hσ9 => ih _ hσ9))))
theorem kp_X9_keeps_49 {μ : x_Hp} {σ : x_Hp} (hσ : kR μ σ) : kp μ (F_X9_keeps_49 σ) := by
  rw [F_X9_keeps_49]
  exact kp_X9_keeps_51  _ _ hσ
theorem kp_X9_keeps_11 {μ : x_Hp} : ∀ (n : Nat) (x1 : Int32) {σ : x_Hp}, kR μ σ → kp μ (F_X9_keeps_11 n x1 σ) := by
  intro n
  induction n with
  | zero =>
    intros
    rw [F_X9_keeps_11]
    exact kp_none
  | succ n ih =>
    intro x1 σ hσ
    rw [F_X9_keeps_11]
    exact kp_if (kp_pt (kR.pI hσ (fun q => absurd q.2 (by decide))) (fun σ1 hσ1 => kp_X9_keeps_49   hσ1)) (kp_gd (kp_gd (kp_pt (kR.pI hσ (fun q => absurd q.1 (by decide))) (fun σ4 hσ4 => ih _ hσ4))))
theorem kp_X9_keeps {μ : x_Hp} {σ : x_Hp} (hσ : kR μ σ) : kp μ (F_X9_keeps σ) := by
  rw [F_X9_keeps]
  exact kp_if (kp_X9_keeps_11  _ _ hσ) (kp_X9_keeps_49   hσ)
theorem kp_X9_minutes {μ : x_Hp} (x1 : Int32) {σ : x_Hp} (hσ : kR μ σ) : kp μ (F_X9_minutes x1 σ) := by
  rw [F_X9_minutes]
  exact kp_b (kp_X9_in  _ _ _ hσ) (fun v1 σ1 hσ1 => kp_if (kp_ret hσ1) (kp_if (kp_ret hσ1) (kp_b (kp_X9_copies   hσ1) (fun _ σ2 hσ2 => kp_b (kp_X9_goes  _ hσ2) (fun _ σ3 hσ3 => kp_b (kp_X9_keeps   hσ3) (fun _ σ4 hσ4 => kp_ret hσ4))))))
theorem kp_X9_hand {μ : x_Hp} (x1 : Int32) {σ : x_Hp} (hσ : kR μ σ) : kp μ (F_X9_hand x1 σ) := by
  rw [F_X9_hand]
  exact kp_b (kp_X9_isAunt  _ hσ) (fun v1 σ1 hσ1 => kp_if (kp_ret hσ1) (kp_b (kp_X9_isAwake   hσ1) (fun v2 σ2 hσ2 => kp_if (kp_ret hσ2) (kp_if (kp_ret hσ2) (kp_b (kp_X9_copies   hσ2) (fun _ σ3 hσ3 => kp_b (kp_X9_hands  _ hσ3) (fun _ σ4 hσ4 => kp_b (kp_X9_keeps   hσ4) (fun _ σ5 hσ5 => kp_ret hσ5))))))))
theorem kp_X9_feedsNow {μ : x_Hp} {σ : x_Hp} (hσ : kR μ σ) : kp μ (F_X9_feedsNow σ) := by
  rw [F_X9_feedsNow]
  exact kp_pt (kR.pI hσ (fun q => absurd q.1 (by decide))) (fun σ1 hσ1 => kp_gd (kp_b (kp_X9_held  _ _ _ hσ1) (fun v3 σ3 hσ3 => kp_pt (kR.pI hσ3 (fun q => absurd q.1 (by decide))) (fun σ4 hσ4 => kp_ret hσ4))))
theorem kp_X9_nurse {μ : x_Hp} {σ : x_Hp} (hσ : kR μ σ) : kp μ (F_X9_nurse σ) := by
  rw [F_X9_nurse]
  exact kp_b (kp_X9_isAwake   hσ) (fun v1 σ1 hσ1 => kp_if (kp_ret hσ1) (kp_b (kp_X9_copies   hσ1) (fun _ σ2 hσ2 => kp_b (kp_X9_feedsNow   hσ2) (fun _ σ3 hσ3 => kp_b (kp_X9_keeps   hσ3) (fun _ σ4 hσ4 => kp_ret hσ4)))))
theorem kp_X9_lay {μ : x_Hp} {σ : x_Hp} (hσ : kR μ σ) : kp μ (F_X9_lay σ) := by
  rw [F_X9_lay]
  exact kp_b (kp_X9_isAwake   hσ) (fun v1 σ1 hσ1 => kp_if (kp_ret hσ1) (kp_b (kp_X9_copies   hσ1) (fun _ σ2 hσ2 => kp_b (kp_X9_fallsAsleep   hσ2) (fun _ σ3 hσ3 => kp_b (kp_X9_keeps   hσ3) (fun _ σ4 hσ4 => kp_ret hσ4)))))
theorem kp_X9_turns_34 {μ : x_Hp} (x3 : Int32) (s0 : Int32) (s1 : Int32) {σ : x_Hp} (hσ : kR μ σ) : kp μ (F_X9_turns_34 x3 s0 s1 σ) := by
  rw [F_X9_turns_34]
  exact kp_gd (kp_pt (kR.pI hσ (fun q => absurd q.1 (by decide))) (fun σ4 hσ4 => kp_b (kp_X9_keeps   hσ4) (fun _ σ5 hσ5 => kp_gd (kp_ret hσ5))))
theorem kp_X9_turns_19 {μ : x_Hp} (x1 : Int32) (x2 : Int32) (s0 : Int32) {σ : x_Hp} (hσ : kR μ σ) : kp μ (F_X9_turns_19 x1 x2 s0 σ) := by
  rw [F_X9_turns_19]
  exact kp_if (kp_X9_turns_34  _ _ _ hσ) (kp_X9_turns_34  _ _ _ hσ)
theorem kp_X9_turns {μ : x_Hp} (x1 : Int32) (x2 : Int32) {σ : x_Hp} (hσ : kR μ σ) : kp μ (F_X9_turns x1 x2 σ) := by
  rw [F_X9_turns]
  exact kp_b (kp_X9_copies   hσ) (fun _ σ1 hσ1 => kp_gd (kp_if (kp_X9_turns_19  _ _ _ hσ1) (kp_X9_turns_19  _ _ _ hσ1)))
theorem kp_X9_cloth {μ : x_Hp} (x1 : Int32) {σ : x_Hp} (hσ : kR μ σ) : kp μ (F_X9_cloth x1 σ) := by
  rw [F_X9_cloth]
  exact kp_b (kp_X9_turns  _ _ hσ) (fun v1 σ1 hσ1 => kp_gd (kp_ret hσ1))
theorem kp_X9_mother {μ : x_Hp} (x1 : Int32) {σ : x_Hp} (hσ : kR μ σ) : kp μ (F_X9_mother x1 σ) := by
  rw [F_X9_mother]
  exact kp_b (kp_X9_turns  _ _ hσ) (fun v1 σ1 hσ1 => kp_gd (kp_ret hσ1))
theorem kp_X9_undo_21 {μ : x_Hp} : ∀ (n : Nat) (x1 : Int32) {σ : x_Hp}, kR μ σ → kp μ (F_X9_undo_21 n x1 σ) := by
  intro n
  induction n with
  | zero =>
    intros
    rw [F_X9_undo_21]
    exact kp_none
  | succ n ih =>
    intro x1 σ hσ
    rw [F_X9_undo_21]
    exact kp_if (kp_ret hσ) (kp_gd (kp_gd (kp_pt (kR.pI hσ (fun q => absurd q.1 (by decide))) (fun σ4 hσ4 => ih _ hσ4))))
theorem kp_X9_undo {μ : x_Hp} {σ : x_Hp} (hσ : kR μ σ) : kp μ (F_X9_undo σ) := by
  rw [F_X9_undo]
  exact kp_if (kp_ret hσ) (kp_pt (kR.pI hσ (fun q => absurd q.2 (by decide))) (fun σ1 hσ1 => kp_X9_undo_21  _ _ hσ1))
theorem kp_X9_crying {μ : x_Hp} (x1 : Int32) {σ : x_Hp} (hσ : kR μ σ) : kp μ (F_X9_crying x1 σ) := by
  rw [F_X9_crying]
  exact kp_b (kp_X9_in  _ _ _ hσ) (fun v1 σ1 hσ1 => kp_if (kp_ret hσ1) (kp_b (kp_X9_copies   hσ1) (fun _ σ2 hσ2 => kp_b (kp_X9_cries  _ hσ2) (fun v3 σ3 hσ3 => kp_ret hσ3))))
theorem kp_X9_next_104 {μ : x_Hp} {k31 : Int32 → Int32 → Int32 → Int32 → Int32 → x_Hp → Option (Int32 × x_Hp)} (hk31 : ∀ a0 a1 a2 a3 a4 σ, kR μ σ → kp μ (k31 a0 a1 a2 a3 a4 σ)) (x1 : Int32) (x2 : Int32) (x3 : Int32) (x4 : Int32) (x5 : Int32) {σ : x_Hp} (hσ : kR μ σ) : kp μ (F_X9_next_104 k31 x1 x2 x3 x4 x5 σ) := by
  rw [F_X9_next_104]
  exact hk31 _ _ _ _ _ _ hσ
theorem kp_X9_next_97 {μ : x_Hp} {k31 : Int32 → Int32 → Int32 → Int32 → Int32 → x_Hp → Option (Int32 × x_Hp)} (hk31 : ∀ a0 a1 a2 a3 a4 σ, kR μ σ → kp μ (k31 a0 a1 a2 a3 a4 σ)) (x1 : Int32) (x2 : Int32) (x5 : Int32) (x6 : Int32) {σ : x_Hp} (hσ : kR μ σ) : kp μ (F_X9_next_97 k31 x1 x2 x5 x6 σ) := by
  rw [F_X9_next_97]
  exact kp_X9_next_104 hk31 _ _ _ _ _ hσ
theorem kp_X9_next_31 {μ : x_Hp} : ∀ (n : Nat) (x1 : Int32) (x2 : Int32) (x3 : Int32) (x4 : Int32) (x5 : Int32) {σ : x_Hp}, kR μ σ → kp μ (F_X9_next_31 n x1 x2 x3 x4 x5 σ) := by
  intro n
  induction n with
  | zero =>
    intros
    rw [F_X9_next_31]
    exact kp_none
  | succ n ih =>
    intro x1 x2 x3 x4 x5 σ hσ
    rw [F_X9_next_31]
    exact kp_gd (kp_if (kp_if (kp_ret hσ) (kp_ret hσ)) (kp_b (kp_X9_isAwake   hσ) (fun v4 σ4 hσ4 => kp_if (kp_if (kp_ret hσ4) (kp_ret hσ4)) (kp_if (kp_X9_next_104 ih _ _ _ _ _ hσ4) (kp_b (kp_X9_copies   hσ4) (fun _ σ5 hσ5 => kp_b (kp_X9_hands  _ hσ5) (fun _ σ6 hσ6 => kp_b (kp_X9_cries  _ hσ6) (fun v7 σ7 hσ7 => kp_if (kp_X9_next_97 ih _ _ _ _ hσ7) (kp_if (kp_X9_next_97 ih _ _ _ _ hσ7) (kp_X9_next_104 ih _ _ _ _ _ hσ7))))))))))
theorem kp_X9_next {μ : x_Hp} (x1 : Int32) (x2 : Int32) {σ : x_Hp} (hσ : kR μ σ) : kp μ (F_X9_next x1 x2 σ) := by
  rw [F_X9_next]
  exact kp_b (kp_X9_in  _ _ _ hσ) (fun v1 σ1 hσ1 => kp_if (kp_ret hσ1) (kp_b (kp_X9_in  _ _ _ hσ1) (fun v2 σ2 hσ2 => kp_if (kp_ret hσ2) (kp_X9_next_31  _ _ _ _ _ _ hσ2))))
theorem kp_X9_gives_67 {μ : x_Hp} {k39 : Int32 → Int32 → Int32 → Int32 → x_Hp → Option (Unit × x_Hp)} (hk39 : ∀ a0 a1 a2 a3 σ, kR μ σ → kp μ (k39 a0 a1 a2 a3 σ)) (x1 : Int32) (x3 : Int32) (x4 : Int32) (x5 : Int32) {σ : x_Hp} (hσ : kR μ σ) : kp μ (F_X9_gives_67 k39 x1 x3 x4 x5 σ) := by
  rw [F_X9_gives_67]
  exact kp_b (kp_X9_minuteGoes   hσ) (fun _ σ12 hσ12 => kp_if (hk39 _ _ _ _ _ hσ12) (kp_if (hk39 _ _ _ _ _ hσ12) (kp_pt (kR.pI hσ12 (fun q => absurd q.2 (by decide))) (fun σ13 hσ13 => hk39 _ _ _ _ _ hσ13))))
theorem kp_X9_gives_54 {μ : x_Hp} {k39 : Int32 → Int32 → Int32 → Int32 → x_Hp → Option (Unit × x_Hp)} (hk39 : ∀ a0 a1 a2 a3 σ, kR μ σ → kp μ (k39 a0 a1 a2 a3 σ)) (x1 : Int32) (x3 : Int32) (x4 : Int32) (x5 : Int32) {σ : x_Hp} (hσ : kR μ σ) : kp μ (F_X9_gives_54 k39 x1 x3 x4 x5 σ) := by
  rw [F_X9_gives_54]
  exact kp_if (kp_X9_gives_67 hk39 _ _ _ _ hσ) (kp_X9_gives_67 hk39 _ _ _ _ hσ)
theorem kp_X9_gives_39 {μ : x_Hp} : ∀ (n : Nat) (x1 : Int32) (x3 : Int32) (x4 : Int32) (x5 : Int32) {σ : x_Hp}, kR μ σ → kp μ (F_X9_gives_39 n x1 x3 x4 x5 σ) := by
  intro n
  induction n with
  | zero =>
    intros
    rw [F_X9_gives_39]
    exact kp_none
  | succ n ih =>
    intro x1 x3 x4 x5 σ hσ
    rw [F_X9_gives_39]
    exact kp_if (kp_X9_gives_54 ih _ _ _ _ hσ) (kp_if (kp_gd (kp_gd (kp_pt (kR.pI hσ (fun q => absurd q.1 (by decide))) (fun σ6 hσ6 => kp_gd (kp_gd (kp_pt (kR.pI hσ6 (fun q => absurd q.1 (by decide))) (fun σ9 hσ9 => kp_gd (kp_pt (kR.pI hσ9 (fun q => absurd q.2 (by decide))) (fun σ11 hσ11 => kp_ret hσ11))))))))) (kp_X9_gives_54 ih _ _ _ _ hσ))
theorem kp_X9_gives_15 {μ : x_Hp} (x1 : Int32) (x2 : Int32) {σ : x_Hp} (hσ : kR μ σ) : kp μ (F_X9_gives_15 x1 x2 σ) := by
  rw [F_X9_gives_15]
  exact kp_gd (kp_gd (kp_X9_gives_39  _ _ _ _ _ hσ))
theorem kp_X9_gives {μ : x_Hp} (x1 : Int32) (x2 : Int32) {σ : x_Hp} (hσ : kR μ σ) : kp μ (F_X9_gives x1 x2 σ) := by
  rw [F_X9_gives]
  exact kp_if (kp_X9_gives_15  _ _ hσ) (kp_b (kp_X9_hands  _ hσ) (fun _ σ1 hσ1 => kp_X9_gives_15  _ _ hσ1))
theorem kp_X9_starts {μ : x_Hp} {σ : x_Hp} (hσ : kR μ σ) : kp μ (F_X9_starts σ) := by
  rw [F_X9_starts]
  exact kp_b (kp_X9_copies   hσ) (fun _ σ1 hσ1 => kp_pt (kR.pI hσ1 (fun q => absurd q.2 (by decide))) (fun σ2 hσ2 => kp_pt (kR.pI hσ2 (fun q => absurd q.2 (by decide))) (fun σ3 hσ3 => kp_ret hσ3)))
theorem kp_X9_firstOrder_2 {μ : x_Hp} : ∀ (n : Nat) (x1 : Int32) {σ : x_Hp}, kR μ σ → kp μ (F_X9_firstOrder_2 n x1 σ) := by
  intro n
  induction n with
  | zero =>
    intros
    rw [F_X9_firstOrder_2]
    exact kp_none
  | succ n ih =>
    intro x1 σ hσ
    rw [F_X9_firstOrder_2]
    exact kp_if (kp_ret hσ) (kp_gd (kp_pt (kR.pI hσ (fun q => absurd q.1 (by decide))) (fun σ2 hσ2 => ih _ hσ2)))
theorem kp_X9_firstOrder {μ : x_Hp} {σ : x_Hp} (hσ : kR μ σ) : kp μ (F_X9_firstOrder σ) := by
  rw [F_X9_firstOrder]
  exact kp_X9_firstOrder_2  _ _ hσ
theorem kp_X9_nextOrder_110 {μ : x_Hp} : ∀ (n : Nat) (x5 : Int32) (x6 : Int32) {σ : x_Hp}, kR μ σ → kp μ (F_X9_nextOrder_110 n x5 x6 σ) := by
  intro n
  induction n with
  | zero =>
    intros
    rw [F_X9_nextOrder_110]
    exact kp_none
  | succ n ih =>
    intro x5 x6 σ hσ
    rw [F_X9_nextOrder_110]
    exact kp_if (kp_ret hσ) (kp_gd (kp_gd (kp_gd (kp_pt (kR.pI hσ (fun q => absurd q.1 (by decide))) (fun σ15 hσ15 => kp_gd (kp_pt (kR.pI hσ15 (fun q => absurd q.1 (by decide))) (fun σ17 hσ17 => ih _ _ hσ17)))))))
theorem kp_X9_nextOrder_51 {μ : x_Hp} : ∀ (n : Nat) (x1 : Int32) (x2 : Int32) (x3 : Int32) {σ : x_Hp}, kR μ σ → kp μ (F_X9_nextOrder_51 n x1 x2 x3 σ) := by
  intro n
  induction n with
  | zero =>
    intros
    rw [F_X9_nextOrder_51]
    exact kp_none
  | succ n ih =>
    intro x1 x2 x3 σ hσ
    rw [F_X9_nextOrder_51]
    exact kp_gd (kp_gd (kp_if (kp_gd (kp_gd (kp_gd (kp_pt (kR.pI hσ (fun q => absurd q.1 (by decide))) (fun σ9 hσ9 => kp_gd (kp_pt (kR.pI hσ9 (fun q => absurd q.1 (by decide))) (fun σ11 hσ11 => kp_X9_nextOrder_110  _ _ _ hσ11))))))) (ih _ _ _ hσ)))
theorem kp_X9_nextOrder_41 {μ : x_Hp} (x1 : Int32) (x2 : Int32) {σ : x_Hp} (hσ : kR μ σ) : kp μ (F_X9_nextOrder_41 x1 x2 σ) := by
  rw [F_X9_nextOrder_41]
  exact kp_if (kp_X9_nextOrder_51  _ _ _ _ hσ) (kp_ret hσ)
theorem kp_X9_nextOrder_14 {μ : x_Hp} : ∀ (n : Nat) (x1 : Int32) (x2 : Int32) {σ : x_Hp}, kR μ σ → kp μ (F_X9_nextOrder_14 n x1 x2 σ) := by
  intro n
  induction n with
  | zero =>
    intros
    rw [F_X9_nextOrder_14]
    exact kp_none
  | succ n ih =>
    intro x1 x2 σ hσ
    rw [F_X9_nextOrder_14]
    exact kp_if (kp_X9_nextOrder_41  _ _ hσ) (kp_gd (kp_gd (kp_if (kp_X9_nextOrder_41  _ _ hσ) (ih _ _ hσ))))
theorem kp_X9_nextOrder {μ : x_Hp} {σ : x_Hp} (hσ : kR μ σ) : kp μ (F_X9_nextOrder σ) := by
  rw [F_X9_nextOrder]
  exact kp_gd (kp_X9_nextOrder_14  _ _ _ hσ)
theorem kp_X9_givesAll_6 {μ : x_Hp} : ∀ (n : Nat) (x1 : Int32) (x2 : Int32) {σ : x_Hp}, kR μ σ → kp μ (F_X9_givesAll_6 n x1 x2 σ) := by
  intro n
  induction n with
  | zero =>
    intros
    rw [F_X9_givesAll_6]
    exact kp_none
  | succ n ih =>
    intro x1 x2 σ hσ
    rw [F_X9_givesAll_6]
    exact kp_gd (kp_if (kp_ret hσ) (kp_gd (kp_b (kp_X9_gives  _ _ hσ) (fun _ σ4 hσ4 => ih _ _ hσ4))))
theorem kp_X9_givesAll {μ : x_Hp} (x1 : Int32) {σ : x_Hp} (hσ : kR μ σ) : kp μ (F_X9_givesAll x1 σ) := by
  rw [F_X9_givesAll]
  exact kp_b (kp_X9_starts   hσ) (fun _ σ1 hσ1 => kp_X9_givesAll_6  _ _ _ hσ1)
theorem kp_X9_apartNow_58 {μ : x_Hp} {k11 : Int32 → Int32 → Int32 → x_Hp → Option (Int32 × x_Hp)} (hk11 : ∀ a0 a1 a2 σ, kR μ σ → kp μ (k11 a0 a1 a2 σ)) (x1 : Int32) (x2 : Int32) (x3 : Int32) {σ : x_Hp} (hσ : kR μ σ) : kp μ (F_X9_apartNow_58 k11 x1 x2 x3 σ) := by
  rw [F_X9_apartNow_58]
  exact hk11 _ _ _ _ hσ
theorem kp_X9_apartNow_41 {μ : x_Hp} {k11 : Int32 → Int32 → Int32 → x_Hp → Option (Int32 × x_Hp)} (hk11 : ∀ a0 a1 a2 σ, kR μ σ → kp μ (k11 a0 a1 a2 σ)) (x1 : Int32) (x2 : Int32) (x3 : Int32) {σ : x_Hp} (hσ : kR μ σ) : kp μ (F_X9_apartNow_41 k11 x1 x2 x3 σ) := by
  rw [F_X9_apartNow_41]
  exact kp_gd (kp_if (kp_X9_apartNow_58 hk11 _ _ _ hσ) (kp_gd (kp_X9_apartNow_58 hk11 _ _ _ hσ)))
theorem kp_X9_apartNow_11 {μ : x_Hp} : ∀ (n : Nat) (x1 : Int32) (x2 : Int32) (x3 : Int32) {σ : x_Hp}, kR μ σ → kp μ (F_X9_apartNow_11 n x1 x2 x3 σ) := by
  intro n
  induction n with
  | zero =>
    intros
    rw [F_X9_apartNow_11]
    exact kp_none
  | succ n ih =>
    intro x1 x2 x3 σ hσ
    rw [F_X9_apartNow_11]
    exact kp_gd (kp_if (kp_ret hσ) (kp_gd (kp_if (kp_X9_apartNow_41 ih _ _ _ hσ) (kp_gd (kp_X9_apartNow_41 ih _ _ _ hσ)))))
theorem kp_X9_apartNow {μ : x_Hp} {σ : x_Hp} (hσ : kR μ σ) : kp μ (F_X9_apartNow σ) := by
  rw [F_X9_apartNow]
  exact kp_X9_apartNow_11  _ _ _ _ hσ
theorem kp_X9_luckiest_34 {μ : x_Hp} {k4 : Int32 → Int32 → x_Hp → Option (Int32 × x_Hp)} (hk4 : ∀ a0 a1 σ, kR μ σ → kp μ (k4 a0 a1 σ)) (x1 : Int32) (x2 : Int32) {σ : x_Hp} (hσ : kR μ σ) : kp μ (F_X9_luckiest_34 k4 x1 x2 σ) := by
  rw [F_X9_luckiest_34]
  exact hk4 _ _ _ hσ
theorem kp_X9_luckiest_4 {μ : x_Hp} : ∀ (n : Nat) (x1 : Int32) (x2 : Int32) {σ : x_Hp}, kR μ σ → kp μ (F_X9_luckiest_4 n x1 x2 σ) := by
  intro n
  induction n with
  | zero =>
    intros
    rw [F_X9_luckiest_4]
    exact kp_none
  | succ n ih =>
    intro x1 x2 σ hσ
    rw [F_X9_luckiest_4]
    exact kp_gd (kp_if (kp_ret hσ) (kp_gd (kp_gd (kp_if (kp_X9_luckiest_34 ih _ _ hσ) (kp_X9_luckiest_34 ih _ _ hσ)))))
theorem kp_X9_luckiest {μ : x_Hp} {σ : x_Hp} (hσ : kR μ σ) : kp μ (F_X9_luckiest σ) := by
  rw [F_X9_luckiest]
  exact kp_X9_luckiest_4  _ _ _ hσ
theorem kp_X9_fillsOrders_189 {μ : x_Hp} {k42 : Int32 → Int32 → x_Hp → Option (Unit × x_Hp)} (hk42 : ∀ a0 a1 σ, kR μ σ → kp μ (k42 a0 a1 σ)) (x1 : Int32) {σ : x_Hp} (hσ : kR μ σ) : kp μ (F_X9_fillsOrders_189 k42 x1 σ) := by
  rw [F_X9_fillsOrders_189]
  exact kp_b (kp_X9_nextOrder   hσ) (fun v22 σ22 hσ22 => hk42 _ _ _ hσ22)
theorem kp_X9_fillsOrders_171 {μ : x_Hp} {k42 : Int32 → Int32 → x_Hp → Option (Unit × x_Hp)} (hk42 : ∀ a0 a1 σ, kR μ σ → kp μ (k42 a0 a1 σ)) (x1 : Int32) {σ : x_Hp} (hσ : kR μ σ) : kp μ (F_X9_fillsOrders_171 k42 x1 σ) := by
  rw [F_X9_fillsOrders_171]
  exact kp_b (kp_X9_apartNow   hσ) (fun v19 σ19 hσ19 => kp_pt (kR.pI hσ19 (fun q => absurd q.2 (by decide))) (fun σ20 hσ20 => kp_pt (kR.pI hσ20 (fun q => absurd q.2 (by decide))) (fun σ21 hσ21 => kp_X9_fillsOrders_189 hk42 _ hσ21)))
theorem kp_X9_fillsOrders_140 {μ : x_Hp} {k42 : Int32 → Int32 → x_Hp → Option (Unit × x_Hp)} (hk42 : ∀ a0 a1 σ, kR μ σ → kp μ (k42 a0 a1 σ)) (x1 : Int32) {σ : x_Hp} (hσ : kR μ σ) : kp μ (F_X9_fillsOrders_140 k42 x1 σ) := by
  rw [F_X9_fillsOrders_140]
  exact kp_b (kp_X9_luckiest   hσ) (fun v14 σ14 hσ14 => kp_gd (kp_gd (kp_pt (kR.pI hσ14 (fun q => absurd q.1 (by decide))) (fun σ17 hσ17 => kp_if (kp_X9_fillsOrders_171 hk42 _ hσ17) (kp_b (kp_X9_apartNow   hσ17) (fun v18 σ18 hσ18 => kp_if (kp_X9_fillsOrders_189 hk42 _ hσ18) (kp_X9_fillsOrders_171 hk42 _ hσ18)))))))
theorem kp_X9_fillsOrders_103 {μ : x_Hp} {k42 : Int32 → Int32 → x_Hp → Option (Unit × x_Hp)} (hk42 : ∀ a0 a1 σ, kR μ σ → kp μ (k42 a0 a1 σ)) (x1 : Int32) {σ : x_Hp} (hσ : kR μ σ) : kp μ (F_X9_fillsOrders_103 k42 x1 σ) := by
  rw [F_X9_fillsOrders_103]
  exact kp_if (kp_X9_fillsOrders_140 hk42 _ hσ) (kp_gd (kp_if (kp_X9_fillsOrders_140 hk42 _ hσ) (kp_pt (kR.pI hσ (fun q => absurd q.2 (by decide))) (fun σ10 hσ10 => kp_X9_fillsOrders_140 hk42 _ hσ10))))
theorem kp_X9_fillsOrders_79 {μ : x_Hp} {k42 : Int32 → Int32 → x_Hp → Option (Unit × x_Hp)} (hk42 : ∀ a0 a1 σ, kR μ σ → kp μ (k42 a0 a1 σ)) : ∀ (n : Nat) (x1 : Int32) (x3 : Int32) {σ : x_Hp}, kR μ σ → kp μ (F_X9_fillsOrders_79 k42 n x1 x3 σ) := by
  intro n
  induction n with
  | zero =>
    intros
    rw [F_X9_fillsOrders_79]
    exact kp_none
  | succ n ih =>
    intro x1 x3 σ hσ
    rw [F_X9_fillsOrders_79]
    exact kp_if (kp_X9_fillsOrders_103 hk42 _ hσ) (kp_gd (kp_gd (kp_pt (kR.pI hσ (fun q => absurd q.1 (by decide))) (fun σ13 hσ13 => ih _ _ hσ13))))
theorem kp_X9_fillsOrders_69 {μ : x_Hp} {k42 : Int32 → Int32 → x_Hp → Option (Unit × x_Hp)} (hk42 : ∀ a0 a1 σ, kR μ σ → kp μ (k42 a0 a1 σ)) (x1 : Int32) {σ : x_Hp} (hσ : kR μ σ) : kp μ (F_X9_fillsOrders_69 k42 x1 σ) := by
  rw [F_X9_fillsOrders_69]
  exact kp_pt (kR.pI hσ (fun q => absurd q.2 (by decide))) (fun σ8 hσ8 => kp_X9_fillsOrders_79 hk42 _ _ _ hσ8)
theorem kp_X9_fillsOrders_42 {μ : x_Hp} : ∀ (n : Nat) (x1 : Int32) (x2 : Int32) {σ : x_Hp}, kR μ σ → kp μ (F_X9_fillsOrders_42 n x1 x2 σ) := by
  intro n
  induction n with
  | zero =>
    intros
    rw [F_X9_fillsOrders_42]
    exact kp_none
  | succ n ih =>
    intro x1 x2 σ hσ
    rw [F_X9_fillsOrders_42]
    exact kp_if (kp_ret hσ) (kp_b (kp_X9_givesAll  _ hσ) (fun _ σ7 hσ7 => kp_if (kp_X9_fillsOrders_69 ih _ hσ7) (kp_if (kp_X9_fillsOrders_103 ih _ hσ7) (kp_X9_fillsOrders_69 ih _ hσ7))))
theorem kp_X9_fillsOrders_21 {μ : x_Hp} : ∀ (n : Nat) (x1 : Int32) (x2 : Int32) {σ : x_Hp}, kR μ σ → kp μ (F_X9_fillsOrders_21 n x1 x2 σ) := by
  intro n
  induction n with
  | zero =>
    intros
    rw [F_X9_fillsOrders_21]
    exact kp_none
  | succ n ih =>
    intro x1 x2 σ hσ
    rw [F_X9_fillsOrders_21]
    exact kp_if (kp_X9_fillsOrders_42  _ _ _ hσ) (kp_gd (kp_pt (kR.pI hσ (fun q => absurd q.1 (by decide))) (fun σ6 hσ6 => ih _ _ hσ6)))
theorem kp_X9_fillsOrders {μ : x_Hp} (x1 : Int32) {σ : x_Hp} (hσ : kR μ σ) : kp μ (F_X9_fillsOrders x1 σ) := by
  rw [F_X9_fillsOrders]
  exact kp_b (kp_X9_firstOrder   hσ) (fun _ σ1 hσ1 => kp_pt (kR.pI hσ1 (fun q => absurd q.2 (by decide))) (fun σ2 hσ2 => kp_pt (kR.pI hσ2 (fun q => absurd q.2 (by decide))) (fun σ3 hσ3 => kp_pt (kR.pI hσ3 (fun q => absurd q.2 (by decide))) (fun σ4 hσ4 => kp_X9_fillsOrders_21  _ _ _ hσ4))))
theorem kp_X9_isShort {μ : x_Hp} (x0 : Int32) {σ : x_Hp} (hσ : kR μ σ) : kp μ (F_X9_isShort x0 σ) := by
  rw [F_X9_isShort]
  exact kp_b (kp_X9_in  _ _ _ hσ) (fun v1 σ1 hσ1 => kp_gd (kp_ret hσ1))
theorem kp_X9_order {μ : x_Hp} (x1 : Int32) {σ : x_Hp} (hσ : kR μ σ) : kp μ (F_X9_order x1 σ) := by
  rw [F_X9_order]
  exact kp_b (kp_X9_isShort  _ hσ) (fun v1 σ1 hσ1 => kp_if (kp_ret hσ1) (kp_b (kp_X9_isAwake   hσ1) (fun v2 σ2 hσ2 => kp_if (kp_ret hσ2) (kp_b (kp_X9_fillsOrders  _ hσ2) (fun _ σ3 hσ3 => kp_ret hσ3)))))
theorem kp_X9_orderAt {μ : x_Hp} (x1 : Int32) (x2 : Int32) {σ : x_Hp} (hσ : kR μ σ) : kp μ (F_X9_orderAt x1 x2 σ) := by
  rw [F_X9_orderAt]
  exact kp_b (kp_X9_isShort  _ hσ) (fun v1 σ1 hσ1 => kp_if (kp_ret hσ1) (kp_if (kp_b (kp_X9_isAwake   hσ1) (fun v2 σ2 hσ2 => kp_if (kp_ret hσ2) (kp_b (kp_X9_fillsOrders  _ hσ2) (fun _ σ3 hσ3 => kp_gd (kp_if (kp_ret hσ3) (kp_gd (kp_ret hσ3))))))) (kp_ret hσ1)))
theorem kp_X9_sitters {μ : x_Hp} (x1 : Int32) {σ : x_Hp} (hσ : kR μ σ) : kp μ (F_X9_sitters x1 σ) := by
  rw [F_X9_sitters]
  exact kp_b (kp_X9_isShort  _ hσ) (fun v1 σ1 hσ1 => kp_if (kp_ret hσ1) (kp_b (kp_X9_isAwake   hσ1) (fun v2 σ2 hσ2 => kp_if (kp_ret hσ2) (kp_b (kp_X9_fillsOrders  _ hσ2) (fun _ σ3 hσ3 => kp_ret hσ3)))))
theorem kp_X9_luck {μ : x_Hp} (x1 : Int32) (x2 : Int32) {σ : x_Hp} (hσ : kR μ σ) : kp μ (F_X9_luck x1 x2 σ) := by
  rw [F_X9_luck]
  exact kp_b (kp_X9_isAunt  _ hσ) (fun v1 σ1 hσ1 => kp_if (kp_ret hσ1) (kp_b (kp_X9_isShort  _ hσ1) (fun v2 σ2 hσ2 => kp_if (kp_ret hσ2) (kp_b (kp_X9_isAwake   hσ2) (fun v3 σ3 hσ3 => kp_if (kp_ret hσ3) (kp_b (kp_X9_fillsOrders  _ hσ3) (fun _ σ4 hσ4 => kp_gd (kp_ret hσ4))))))))
theorem kp_X9_fairest {μ : x_Hp} (x1 : Int32) (x2 : Int32) {σ : x_Hp} (hσ : kR μ σ) : kp μ (F_X9_fairest x1 x2 σ) := by
  rw [F_X9_fairest]
  exact kp_b (kp_X9_isShort  _ hσ) (fun v1 σ1 hσ1 => kp_if (kp_ret hσ1) (kp_b (kp_X9_in  _ _ _ hσ1) (fun v2 σ2 hσ2 => kp_if (kp_ret hσ2) (kp_b (kp_X9_isAwake   hσ2) (fun v3 σ3 hσ3 => kp_if (kp_ret hσ3) (kp_b (kp_X9_fillsOrders  _ hσ3) (fun _ σ4 hσ4 => kp_if (kp_ret hσ4) (kp_ret hσ4))))))))
theorem kp_X9_leftOut_117 {μ : x_Hp} {k36 : Int32 → Int32 → Int32 → Int32 → Int32 → x_Hp → Option (Int32 × x_Hp)} (hk36 : ∀ a0 a1 a2 a3 a4 σ, kR μ σ → kp μ (k36 a0 a1 a2 a3 a4 σ)) (x1 : Int32) (x2 : Int32) (x3 : Int32) (x4 : Int32) (x5 : Int32) {σ : x_Hp} (hσ : kR μ σ) : kp μ (F_X9_leftOut_117 k36 x1 x2 x3 x4 x5 σ) := by
  rw [F_X9_leftOut_117]
  exact hk36 _ _ _ _ _ _ hσ
theorem kp_X9_leftOut_108 {μ : x_Hp} {k36 : Int32 → Int32 → Int32 → Int32 → Int32 → x_Hp → Option (Int32 × x_Hp)} (hk36 : ∀ a0 a1 a2 a3 a4 σ, kR μ σ → kp μ (k36 a0 a1 a2 a3 a4 σ)) (x1 : Int32) (x2 : Int32) (x5 : Int32) {σ : x_Hp} (hσ : kR μ σ) : kp μ (F_X9_leftOut_108 k36 x1 x2 x5 σ) := by
  rw [F_X9_leftOut_108]
  exact kp_X9_leftOut_117 hk36 _ _ _ _ _ hσ
theorem kp_X9_leftOut_85 {μ : x_Hp} {k36 : Int32 → Int32 → Int32 → Int32 → Int32 → x_Hp → Option (Int32 × x_Hp)} (hk36 : ∀ a0 a1 a2 a3 a4 σ, kR μ σ → kp μ (k36 a0 a1 a2 a3 a4 σ)) {k57 : Int32 → Int32 → Int32 → Int32 → Int32 → Int32 → x_Hp → Option (Int32 × x_Hp)} (hk57 : ∀ a0 a1 a2 a3 a4 a5 σ, kR μ σ → kp μ (k57 a0 a1 a2 a3 a4 a5 σ)) (x1 : Int32) (x2 : Int32) (x3 : Int32) (x4 : Int32) (x5 : Int32) (x6 : Int32) {σ : x_Hp} (hσ : kR μ σ) : kp μ (F_X9_leftOut_85 k36 k57 x1 x2 x3 x4 x5 x6 σ) := by
  rw [F_X9_leftOut_85]
  exact hk57 _ _ _ _ _ _ _ hσ
theorem kp_X9_leftOut_57 {μ : x_Hp} {k36 : Int32 → Int32 → Int32 → Int32 → Int32 → x_Hp → Option (Int32 × x_Hp)} (hk36 : ∀ a0 a1 a2 a3 a4 σ, kR μ σ → kp μ (k36 a0 a1 a2 a3 a4 σ)) : ∀ (n : Nat) (x1 : Int32) (x2 : Int32) (x3 : Int32) (x4 : Int32) (x5 : Int32) (x6 : Int32) {σ : x_Hp}, kR μ σ → kp μ (F_X9_leftOut_57 k36 n x1 x2 x3 x4 x5 x6 σ) := by
  intro n
  induction n with
  | zero =>
    intros
    rw [F_X9_leftOut_57]
    exact kp_none
  | succ n ih =>
    intro x1 x2 x3 x4 x5 x6 σ hσ
    rw [F_X9_leftOut_57]
    exact kp_gd (kp_if (kp_if (kp_X9_leftOut_108 hk36 _ _ _ hσ) (kp_if (kp_X9_leftOut_108 hk36 _ _ _ hσ) (kp_X9_leftOut_117 hk36 _ _ _ _ _ hσ))) (kp_if (kp_X9_leftOut_85 hk36 ih _ _ _ _ _ _ hσ) (kp_b (kp_X9_gives  _ _ hσ) (fun _ σ7 hσ7 => kp_X9_leftOut_85 hk36 ih _ _ _ _ _ _ hσ7))))
theorem kp_X9_leftOut_36 {μ : x_Hp} : ∀ (n : Nat) (x1 : Int32) (x2 : Int32) (x3 : Int32) (x4 : Int32) (x5 : Int32) {σ : x_Hp}, kR μ σ → kp μ (F_X9_leftOut_36 n x1 x2 x3 x4 x5 σ) := by
  intro n
  induction n with
  | zero =>
    intros
    rw [F_X9_leftOut_36]
    exact kp_none
  | succ n ih =>
    intro x1 x2 x3 x4 x5 σ hσ
    rw [F_X9_leftOut_36]
    exact kp_gd (kp_if (kp_if (kp_ret hσ) (kp_ret hσ)) (kp_b (kp_X9_starts   hσ) (fun _ σ5 hσ5 => kp_X9_leftOut_57 ih _ _ _ _ _ _ _ hσ5)))
theorem kp_X9_leftOut {μ : x_Hp} (x1 : Int32) (x2 : Int32) {σ : x_Hp} (hσ : kR μ σ) : kp μ (F_X9_leftOut x1 x2 σ) := by
  rw [F_X9_leftOut]
  exact kp_b (kp_X9_isShort  _ hσ) (fun v1 σ1 hσ1 => kp_if (kp_ret hσ1) (kp_b (kp_X9_in  _ _ _ hσ1) (fun v2 σ2 hσ2 => kp_if (kp_ret hσ2) (kp_b (kp_X9_isAwake   hσ2) (fun v3 σ3 hσ3 => kp_if (kp_ret hσ3) (kp_X9_leftOut_36  _ _ _ _ _ _ hσ3))))))
theorem kp_X9_cryIf_74 {μ : x_Hp} (x2 : Int32) {σ : x_Hp} (hσ : kR μ σ) : kp μ (F_X9_cryIf_74 x2 σ) := by
  rw [F_X9_cryIf_74]
  exact kp_b (kp_X9_cries  _ hσ) (fun v6 σ6 hσ6 => kp_ret hσ6)
theorem kp_X9_cryIf_62 {μ : x_Hp} (x1 : Int32) (x2 : Int32) {σ : x_Hp} (hσ : kR μ σ) : kp μ (F_X9_cryIf_62 x1 x2 σ) := by
  rw [F_X9_cryIf_62]
  exact kp_if (kp_X9_cryIf_74  _ hσ) (kp_b (kp_X9_hands  _ hσ) (fun _ σ5 hσ5 => kp_X9_cryIf_74  _ hσ5))
theorem kp_X9_cryIf_43 {μ : x_Hp} (x1 : Int32) (x2 : Int32) {σ : x_Hp} (hσ : kR μ σ) : kp μ (F_X9_cryIf_43 x1 x2 σ) := by
  rw [F_X9_cryIf_43]
  exact kp_if (kp_X9_cryIf_62  _ _ hσ) (kp_if (kp_ret hσ) (kp_X9_cryIf_62  _ _ hσ))
theorem kp_X9_cryIf_22 {μ : x_Hp} (x1 : Int32) (x2 : Int32) {σ : x_Hp} (hσ : kR μ σ) : kp μ (F_X9_cryIf_22 x1 x2 σ) := by
  rw [F_X9_cryIf_22]
  exact kp_if (kp_pt (kR.pI hσ (fun q => absurd q.1 (by decide))) (fun σ4 hσ4 => kp_X9_cryIf_43  _ _ hσ4)) (kp_X9_cryIf_43  _ _ hσ)
theorem kp_X9_cryIf_13 {μ : x_Hp} (x1 : Int32) (x2 : Int32) {σ : x_Hp} (hσ : kR μ σ) : kp μ (F_X9_cryIf_13 x1 x2 σ) := by
  rw [F_X9_cryIf_13]
  exact kp_if (kp_b (kp_X9_fallsAsleep   hσ) (fun _ σ3 hσ3 => kp_X9_cryIf_22  _ _ hσ3)) (kp_X9_cryIf_22  _ _ hσ)
theorem kp_X9_cryIf {μ : x_Hp} (x1 : Int32) (x2 : Int32) {σ : x_Hp} (hσ : kR μ σ) : kp μ (F_X9_cryIf x1 x2 σ) := by
  rw [F_X9_cryIf]
  exact kp_b (kp_X9_copies   hσ) (fun _ σ1 hσ1 => kp_if (kp_b (kp_X9_feedsNow   hσ1) (fun _ σ2 hσ2 => kp_X9_cryIf_13  _ _ hσ2)) (kp_X9_cryIf_13  _ _ hσ1))
theorem kp_X9_wants_91 {μ : x_Hp} {k44 : Int32 → Int32 → Int32 → Int32 → Int32 → x_Hp → Option (Int32 × x_Hp)} (hk44 : ∀ a0 a1 a2 a3 a4 σ, kR μ σ → kp μ (k44 a0 a1 a2 a3 a4 σ)) (x1 : Int32) (x2 : Int32) (x3 : Int32) (x4 : Int32) (x5 : Int32) {σ : x_Hp} (hσ : kR μ σ) : kp μ (F_X9_wants_91 k44 x1 x2 x3 x4 x5 σ) := by
  rw [F_X9_wants_91]
  exact hk44 _ _ _ _ _ _ hσ
theorem kp_X9_wants_44 {μ : x_Hp} : ∀ (n : Nat) (x1 : Int32) (x2 : Int32) (x3 : Int32) (x4 : Int32) (x5 : Int32) {σ : x_Hp}, kR μ σ → kp μ (F_X9_wants_44 n x1 x2 x3 x4 x5 σ) := by
  intro n
  induction n with
  | zero =>
    intros
    rw [F_X9_wants_44]
    exact kp_none
  | succ n ih =>
    intro x1 x2 x3 x4 x5 σ hσ
    rw [F_X9_wants_44]
    exact kp_gd (kp_if (kp_if (kp_ret hσ) (kp_ret hσ)) (kp_b (kp_X9_cryIf  _ _ hσ) (fun v6 σ6 hσ6 => kp_if (kp_X9_wants_91 ih _ _ _ _ _ hσ6) (kp_if (kp_X9_wants_91 ih _ _ _ _ _ hσ6) (kp_X9_wants_91 ih _ _ _ _ _ hσ6)))))
theorem kp_X9_wants {μ : x_Hp} (x1 : Int32) (x2 : Int32) {σ : x_Hp} (hσ : kR μ σ) : kp μ (F_X9_wants x1 x2 σ) := by
  rw [F_X9_wants]
  exact kp_b (kp_X9_in  _ _ _ hσ) (fun v1 σ1 hσ1 => kp_if (kp_ret hσ1) (kp_b (kp_X9_in  _ _ _ hσ1) (fun v2 σ2 hσ2 => kp_if (kp_ret hσ2) (kp_b (kp_X9_isAwake   hσ2) (fun v3 σ3 hσ3 => kp_if (kp_ret hσ3) (kp_b (kp_X9_cryIf  _ _ hσ3) (fun v4 σ4 hσ4 => kp_X9_wants_44  _ _ _ _ _ _ hσ4)))))))
theorem kp_X9_cryInSight {μ : x_Hp} (x1 : Int32) (x2 : Int32) {σ : x_Hp} (hσ : kR μ σ) : kp μ (F_X9_cryInSight x1 x2 σ) := by
  rw [F_X9_cryInSight]
  exact kp_b (kp_X9_copies   hσ) (fun _ σ1 hσ1 => kp_pt (kR.pI hσ1 (fun q => absurd q.1 (by decide))) (fun σ2 hσ2 => kp_b (kp_X9_cries  _ hσ2) (fun v3 σ3 hσ3 => kp_pt (kR.pI hσ3 (fun q => absurd q.1 (by decide))) (fun σ4 hσ4 => kp_b (kp_X9_cries  _ hσ4) (fun v5 σ5 hσ5 => kp_ret hσ5)))))
theorem kp_X9_moment {μ : x_Hp} (x1 : Int32) {σ : x_Hp} (hσ : kR μ σ) : kp μ (F_X9_moment x1 σ) := by
  rw [F_X9_moment]
  exact kp_b (kp_X9_in  _ _ _ hσ) (fun v1 σ1 hσ1 => kp_if (kp_ret hσ1) (kp_b (kp_X9_cryInSight  _ _ hσ1) (fun v2 σ2 hσ2 => kp_b (kp_X9_cryInSight  _ _ hσ2) (fun v3 σ3 hσ3 => kp_ret hσ3))))
theorem kp_X9_inSight_66 {μ : x_Hp} {k29 : Int32 → Int32 → Int32 → Int32 → Int32 → x_Hp → Option (Int32 × x_Hp)} (hk29 : ∀ a0 a1 a2 a3 a4 σ, kR μ σ → kp μ (k29 a0 a1 a2 a3 a4 σ)) (x1 : Int32) (x2 : Int32) (x3 : Int32) (x4 : Int32) (x5 : Int32) {σ : x_Hp} (hσ : kR μ σ) : kp μ (F_X9_inSight_66 k29 x1 x2 x3 x4 x5 σ) := by
  rw [F_X9_inSight_66]
  exact hk29 _ _ _ _ _ _ hσ
theorem kp_X9_inSight_59 {μ : x_Hp} {k29 : Int32 → Int32 → Int32 → Int32 → Int32 → x_Hp → Option (Int32 × x_Hp)} (hk29 : ∀ a0 a1 a2 a3 a4 σ, kR μ σ → kp μ (k29 a0 a1 a2 a3 a4 σ)) (x1 : Int32) (x2 : Int32) (x5 : Int32) (x6 : Int32) {σ : x_Hp} (hσ : kR μ σ) : kp μ (F_X9_inSight_59 k29 x1 x2 x5 x6 σ) := by
  rw [F_X9_inSight_59]
  exact kp_X9_inSight_66 hk29 _ _ _ _ _ hσ
theorem kp_X9_inSight_29 {μ : x_Hp} : ∀ (n : Nat) (x1 : Int32) (x2 : Int32) (x3 : Int32) (x4 : Int32) (x5 : Int32) {σ : x_Hp}, kR μ σ → kp μ (F_X9_inSight_29 n x1 x2 x3 x4 x5 σ) := by
  intro n
  induction n with
  | zero =>
    intros
    rw [F_X9_inSight_29]
    exact kp_none
  | succ n ih =>
    intro x1 x2 x3 x4 x5 σ hσ
    rw [F_X9_inSight_29]
    exact kp_if (kp_if (kp_ret hσ) (kp_ret hσ)) (kp_b (kp_X9_cryInSight  _ _ hσ) (fun v3 σ3 hσ3 => kp_if (kp_X9_inSight_59 ih _ _ _ _ hσ3) (kp_if (kp_X9_inSight_59 ih _ _ _ _ hσ3) (kp_X9_inSight_66 ih _ _ _ _ _ hσ3))))
theorem kp_X9_inSight {μ : x_Hp} (x1 : Int32) (x2 : Int32) {σ : x_Hp} (hσ : kR μ σ) : kp μ (F_X9_inSight x1 x2 σ) := by
  rw [F_X9_inSight]
  exact kp_b (kp_X9_in  _ _ _ hσ) (fun v1 σ1 hσ1 => kp_if (kp_ret hσ1) (kp_b (kp_X9_in  _ _ _ hσ1) (fun v2 σ2 hσ2 => kp_if (kp_ret hσ2) (kp_X9_inSight_29  _ _ _ _ _ _ hσ2))))
theorem kp_X9_beat_115 {μ : x_Hp} {k48 : Int32 → Int32 → Int32 → Int32 → Int32 → Int32 → x_Hp → Option (Int32 × x_Hp)} (hk48 : ∀ a0 a1 a2 a3 a4 a5 σ, kR μ σ → kp μ (k48 a0 a1 a2 a3 a4 a5 σ)) (x1 : Int32) (x2 : Int32) (x3 : Int32) (x4 : Int32) (x5 : Int32) (x6 : Int32) {σ : x_Hp} (hσ : kR μ σ) : kp μ (F_X9_beat_115 k48 x1 x2 x3 x4 x5 x6 σ) := by
  rw [F_X9_beat_115]
  exact hk48 _ _ _ _ _ _ _ hσ
theorem kp_X9_beat_107 {μ : x_Hp} {k48 : Int32 → Int32 → Int32 → Int32 → Int32 → Int32 → x_Hp → Option (Int32 × x_Hp)} (hk48 : ∀ a0 a1 a2 a3 a4 a5 σ, kR μ σ → kp μ (k48 a0 a1 a2 a3 a4 a5 σ)) (x1 : Int32) (x2 : Int32) (x3 : Int32) (x6 : Int32) (x7 : Int32) {σ : x_Hp} (hσ : kR μ σ) : kp μ (F_X9_beat_107 k48 x1 x2 x3 x6 x7 σ) := by
  rw [F_X9_beat_107]
  exact kp_X9_beat_115 hk48 _ _ _ _ _ _ hσ
theorem kp_X9_beat_74 {μ : x_Hp} {k48 : Int32 → Int32 → Int32 → Int32 → Int32 → Int32 → x_Hp → Option (Int32 × x_Hp)} (hk48 : ∀ a0 a1 a2 a3 a4 a5 σ, kR μ σ → kp μ (k48 a0 a1 a2 a3 a4 a5 σ)) (x1 : Int32) (x2 : Int32) (x3 : Int32) (x4 : Int32) (x5 : Int32) (x6 : Int32) {σ : x_Hp} (hσ : kR μ σ) : kp μ (F_X9_beat_74 k48 x1 x2 x3 x4 x5 x6 σ) := by
  rw [F_X9_beat_74]
  exact kp_pt (kR.pI hσ (fun q => absurd q.2 (by decide))) (fun σ7 hσ7 => kp_pt (kR.pI hσ7 (fun q => absurd q.2 (by decide))) (fun σ8 hσ8 => kp_b (kp_X9_cries  _ hσ8) (fun v9 σ9 hσ9 => kp_if (kp_X9_beat_107 hk48 _ _ _ _ _ hσ9) (kp_if (kp_X9_beat_107 hk48 _ _ _ _ _ hσ9) (kp_X9_beat_115 hk48 _ _ _ _ _ _ hσ9)))))
theorem kp_X9_beat_48 {μ : x_Hp} : ∀ (n : Nat) (x1 : Int32) (x2 : Int32) (x3 : Int32) (x4 : Int32) (x5 : Int32) (x6 : Int32) {σ : x_Hp}, kR μ σ → kp μ (F_X9_beat_48 n x1 x2 x3 x4 x5 x6 σ) := by
  intro n
  induction n with
  | zero =>
    intros
    rw [F_X9_beat_48]
    exact kp_none
  | succ n ih =>
    intro x1 x2 x3 x4 x5 x6 σ hσ
    rw [F_X9_beat_48]
    exact kp_if (kp_if (kp_ret hσ) (kp_ret hσ)) (kp_b (kp_X9_copies   hσ) (fun _ σ5 hσ5 => kp_if (kp_X9_beat_74 ih _ _ _ _ _ _ hσ5) (kp_b (kp_X9_hands  _ hσ5) (fun _ σ6 hσ6 => kp_X9_beat_74 ih _ _ _ _ _ _ hσ6))))
theorem kp_X9_beat {μ : x_Hp} (x1 : Int32) (x2 : Int32) (x3 : Int32) {σ : x_Hp} (hσ : kR μ σ) : kp μ (F_X9_beat x1 x2 x3 σ) := by
  rw [F_X9_beat]
  exact kp_b (kp_X9_isAunt  _ hσ) (fun v1 σ1 hσ1 => kp_if (kp_ret hσ1) (kp_b (kp_X9_in  _ _ _ hσ1) (fun v2 σ2 hσ2 => kp_if (kp_ret hσ2) (kp_b (kp_X9_in  _ _ _ hσ2) (fun v3 σ3 hσ3 => kp_if (kp_ret hσ3) (kp_b (kp_X9_isAwake   hσ3) (fun v4 σ4 hσ4 => kp_if (kp_ret hσ4) (kp_X9_beat_48  _ _ _ _ _ _ _ hσ4))))))))
theorem kp_X9_fewestOther_54 {μ : x_Hp} {k4 : Int32 → Int32 → x_Hp → Option (Int32 × x_Hp)} (hk4 : ∀ a0 a1 σ, kR μ σ → kp μ (k4 a0 a1 σ)) (x1 : Int32) (x2 : Int32) {σ : x_Hp} (hσ : kR μ σ) : kp μ (F_X9_fewestOther_54 k4 x1 x2 σ) := by
  rw [F_X9_fewestOther_54]
  exact hk4 _ _ _ hσ
theorem kp_X9_fewestOther_52 {μ : x_Hp} {k4 : Int32 → Int32 → x_Hp → Option (Int32 × x_Hp)} (hk4 : ∀ a0 a1 σ, kR μ σ → kp μ (k4 a0 a1 σ)) (x2 : Int32) {σ : x_Hp} (hσ : kR μ σ) : kp μ (F_X9_fewestOther_52 k4 x2 σ) := by
  rw [F_X9_fewestOther_52]
  exact kp_X9_fewestOther_54 hk4 _ _ hσ
theorem kp_X9_fewestOther_4 {μ : x_Hp} : ∀ (n : Nat) (x1 : Int32) (x2 : Int32) {σ : x_Hp}, kR μ σ → kp μ (F_X9_fewestOther_4 n x1 x2 σ) := by
  intro n
  induction n with
  | zero =>
    intros
    rw [F_X9_fewestOther_4]
    exact kp_none
  | succ n ih =>
    intro x1 x2 σ hσ
    rw [F_X9_fewestOther_4]
    exact kp_gd (kp_if (kp_ret hσ) (kp_if (kp_X9_fewestOther_54 ih _ _ hσ) (kp_if (kp_X9_fewestOther_52 ih _ hσ) (kp_gd (kp_gd (kp_if (kp_X9_fewestOther_54 ih _ _ hσ) (kp_X9_fewestOther_52 ih _ hσ)))))))
theorem kp_X9_fewestOther {μ : x_Hp} {σ : x_Hp} (hσ : kR μ σ) : kp μ (F_X9_fewestOther σ) := by
  rw [F_X9_fewestOther]
  exact kp_X9_fewestOther_4  _ _ _ hσ
theorem kp_X9_rounds_121 {μ : x_Hp} {k7 : Int32 → Int32 → Int32 → Int32 → x_Hp → Option (Unit × x_Hp)} (hk7 : ∀ a0 a1 a2 a3 σ, kR μ σ → kp μ (k7 a0 a1 a2 a3 σ)) (x1 : Int32) (x2 : Int32) (x3 : Int32) (x4 : Int32) {σ : x_Hp} (hσ : kR μ σ) : kp μ (F_X9_rounds_121 k7 x1 x2 x3 x4 σ) := by
  rw [F_X9_rounds_121]
  exact kp_b (kp_X9_minuteGoes   hσ) (fun _ σ5 hσ5 => hk7 _ _ _ _ _ hσ5)
theorem kp_X9_rounds_118 {μ : x_Hp} {k7 : Int32 → Int32 → Int32 → Int32 → x_Hp → Option (Unit × x_Hp)} (hk7 : ∀ a0 a1 a2 a3 σ, kR μ σ → kp μ (k7 a0 a1 a2 a3 σ)) (x1 : Int32) (x2 : Int32) (x3 : Int32) (x4 : Int32) (s0 : Int32) {σ : x_Hp} (hσ : kR μ σ) : kp μ (F_X9_rounds_118 k7 x1 x2 x3 x4 s0 σ) := by
  rw [F_X9_rounds_118]
  exact kp_b (kp_X9_hands  _ hσ) (fun _ σ6 hσ6 => kp_X9_rounds_121 hk7 _ _ _ _ hσ6)
theorem kp_X9_rounds_57 {μ : x_Hp} {k7 : Int32 → Int32 → Int32 → Int32 → x_Hp → Option (Unit × x_Hp)} (hk7 : ∀ a0 a1 a2 a3 σ, kR μ σ → kp μ (k7 a0 a1 a2 a3 σ)) (x1 : Int32) (x2 : Int32) (x3 : Int32) (x4 : Int32) (s0 : Int32) {σ : x_Hp} (hσ : kR μ σ) : kp μ (F_X9_rounds_57 k7 x1 x2 x3 x4 s0 σ) := by
  rw [F_X9_rounds_57]
  exact kp_if (kp_X9_rounds_121 hk7 _ _ _ _ hσ) (kp_if (kp_gd (kp_if (kp_X9_rounds_121 hk7 _ _ _ _ hσ) (kp_if (kp_b (kp_X9_fewestOther   hσ) (fun v4 σ4 hσ4 => kp_X9_rounds_118 hk7 _ _ _ _ _ hσ4)) (kp_gd (kp_gd (kp_X9_rounds_118 hk7 _ _ _ _ _ hσ)))))) (kp_X9_rounds_121 hk7 _ _ _ _ hσ))
theorem kp_X9_rounds_56 {μ : x_Hp} {k7 : Int32 → Int32 → Int32 → Int32 → x_Hp → Option (Unit × x_Hp)} (hk7 : ∀ a0 a1 a2 a3 σ, kR μ σ → kp μ (k7 a0 a1 a2 a3 σ)) (x1 : Int32) (x2 : Int32) (x3 : Int32) (x4 : Int32) {σ : x_Hp} (hσ : kR μ σ) : kp μ (F_X9_rounds_56 k7 x1 x2 x3 x4 σ) := by
  rw [F_X9_rounds_56]
  exact kp_X9_rounds_57 hk7 _ _ _ _ _ hσ
theorem kp_X9_rounds_7 {μ : x_Hp} : ∀ (n : Nat) (x1 : Int32) (x2 : Int32) (x3 : Int32) (x4 : Int32) {σ : x_Hp}, kR μ σ → kp μ (F_X9_rounds_7 n x1 x2 x3 x4 σ) := by
  intro n
  induction n with
  | zero =>
    intros
    rw [F_X9_rounds_7]
    exact kp_none
  | succ n ih =>
    intro x1 x2 x3 x4 σ hσ
    rw [F_X9_rounds_7]
    exact kp_if (kp_ret hσ) (kp_if (kp_if (kp_X9_rounds_57 ih _ _ _ _ _ hσ) (kp_X9_rounds_57 ih _ _ _ _ _ hσ)) (kp_if (kp_X9_rounds_56 ih _ _ _ _ hσ) (kp_if (kp_X9_rounds_56 ih _ _ _ _ hσ) (kp_X9_rounds_57 ih _ _ _ _ _ hσ))))
theorem kp_X9_rounds {μ : x_Hp} (x1 : Int32) (x2 : Int32) (x3 : Int32) {σ : x_Hp} (hσ : kR μ σ) : kp μ (F_X9_rounds x1 x2 x3 σ) := by
  rw [F_X9_rounds]
  exact kp_b (kp_X9_copies   hσ) (fun _ σ1 hσ1 => kp_X9_rounds_7  _ _ _ _ _ hσ1)
theorem kp_X9_round {μ : x_Hp} (x1 : Int32) (x2 : Int32) (x3 : Int32) (x4 : Int32) {σ : x_Hp} (hσ : kR μ σ) : kp μ (F_X9_round x1 x2 x3 x4 σ) := by
  rw [F_X9_round]
  exact kp_gd (kp_if (kp_ret hσ) (kp_b (kp_X9_in  _ _ _ hσ) (fun v2 σ2 hσ2 => kp_if (kp_ret hσ2) (kp_b (kp_X9_in  _ _ _ hσ2) (fun v3 σ3 hσ3 => kp_if (kp_ret hσ3) (kp_b (kp_X9_in  _ _ _ hσ3) (fun v4 σ4 hσ4 => kp_if (kp_ret hσ4) (kp_b (kp_X9_in  _ _ _ hσ4) (fun v5 σ5 hσ5 => kp_if (kp_ret hσ5) (kp_b (kp_X9_rounds  _ _ _ hσ5) (fun _ σ6 hσ6 => kp_if (kp_ret hσ6) (kp_if (kp_ret hσ6) (kp_ret hσ6)))))))))))))
theorem kp_X9_bestRound_111 {μ : x_Hp} {k41 : Int32 → Int32 → Int32 → Int32 → Int32 → x_Hp → Option (Int32 × x_Hp)} (hk41 : ∀ a0 a1 a2 a3 a4 σ, kR μ σ → kp μ (k41 a0 a1 a2 a3 a4 σ)) {k50 : Int32 → Int32 → Int32 → Int32 → Int32 → Int32 → x_Hp → Option (Int32 × x_Hp)} (hk50 : ∀ a0 a1 a2 a3 a4 a5 σ, kR μ σ → kp μ (k50 a0 a1 a2 a3 a4 a5 σ)) (x1 : Int32) (x2 : Int32) (x3 : Int32) (x4 : Int32) (x5 : Int32) (x6 : Int32) {σ : x_Hp} (hσ : kR μ σ) : kp μ (F_X9_bestRound_111 k41 k50 x1 x2 x3 x4 x5 x6 σ) := by
  rw [F_X9_bestRound_111]
  exact hk50 _ _ _ _ _ _ _ hσ
theorem kp_X9_bestRound_98 {μ : x_Hp} {k41 : Int32 → Int32 → Int32 → Int32 → Int32 → x_Hp → Option (Int32 × x_Hp)} (hk41 : ∀ a0 a1 a2 a3 a4 σ, kR μ σ → kp μ (k41 a0 a1 a2 a3 a4 σ)) {k50 : Int32 → Int32 → Int32 → Int32 → Int32 → Int32 → x_Hp → Option (Int32 × x_Hp)} (hk50 : ∀ a0 a1 a2 a3 a4 a5 σ, kR μ σ → kp μ (k50 a0 a1 a2 a3 a4 a5 σ)) (x1 : Int32) (x2 : Int32) (x5 : Int32) (x6 : Int32) (x7 : Int32) {σ : x_Hp} (hσ : kR μ σ) : kp μ (F_X9_bestRound_98 k41 k50 x1 x2 x5 x6 x7 σ) := by
  rw [F_X9_bestRound_98]
  exact kp_X9_bestRound_111 hk41 hk50 _ _ _ _ _ _ hσ
theorem kp_X9_bestRound_50 {μ : x_Hp} {k41 : Int32 → Int32 → Int32 → Int32 → Int32 → x_Hp → Option (Int32 × x_Hp)} (hk41 : ∀ a0 a1 a2 a3 a4 σ, kR μ σ → kp μ (k41 a0 a1 a2 a3 a4 σ)) : ∀ (n : Nat) (x1 : Int32) (x2 : Int32) (x3 : Int32) (x4 : Int32) (x5 : Int32) (x6 : Int32) {σ : x_Hp}, kR μ σ → kp μ (F_X9_bestRound_50 k41 n x1 x2 x3 x4 x5 x6 σ) := by
  intro n
  induction n with
  | zero =>
    intros
    rw [F_X9_bestRound_50]
    exact kp_none
  | succ n ih =>
    intro x1 x2 x3 x4 x5 x6 σ hσ
    rw [F_X9_bestRound_50]
    exact kp_if (hk41 _ _ _ _ _ _ hσ) (kp_b (kp_X9_rounds  _ _ _ hσ) (fun _ σ4 hσ4 => kp_if (kp_X9_bestRound_98 hk41 ih _ _ _ _ _ hσ4) (kp_if (kp_X9_bestRound_98 hk41 ih _ _ _ _ _ hσ4) (kp_X9_bestRound_111 hk41 ih _ _ _ _ _ _ hσ4))))
theorem kp_X9_bestRound_41 {μ : x_Hp} : ∀ (n : Nat) (x1 : Int32) (x2 : Int32) (x3 : Int32) (x4 : Int32) (x5 : Int32) {σ : x_Hp}, kR μ σ → kp μ (F_X9_bestRound_41 n x1 x2 x3 x4 x5 σ) := by
  intro n
  induction n with
  | zero =>
    intros
    rw [F_X9_bestRound_41]
    exact kp_none
  | succ n ih =>
    intro x1 x2 x3 x4 x5 σ hσ
    rw [F_X9_bestRound_41]
    exact kp_if (kp_if (kp_ret hσ) (kp_ret hσ)) (kp_X9_bestRound_50 ih _ _ _ _ _ _ _ hσ)
theorem kp_X9_bestRound {μ : x_Hp} (x1 : Int32) (x2 : Int32) {σ : x_Hp} (hσ : kR μ σ) : kp μ (F_X9_bestRound x1 x2 σ) := by
  rw [F_X9_bestRound]
  exact kp_gd (kp_if (kp_ret hσ) (kp_b (kp_X9_in  _ _ _ hσ) (fun v2 σ2 hσ2 => kp_if (kp_ret hσ2) (kp_b (kp_X9_in  _ _ _ hσ2) (fun v3 σ3 hσ3 => kp_if (kp_ret hσ3) (kp_X9_bestRound_41  _ _ _ _ _ _ hσ3))))))
theorem kp_X9_feedAt_109 {μ : x_Hp} {k39 : Int32 → Int32 → Int32 → Int32 → Int32 → x_Hp → Option (Int32 × x_Hp)} (hk39 : ∀ a0 a1 a2 a3 a4 σ, kR μ σ → kp μ (k39 a0 a1 a2 a3 a4 σ)) (x1 : Int32) (x2 : Int32) (x3 : Int32) (x4 : Int32) (x5 : Int32) {σ : x_Hp} (hσ : kR μ σ) : kp μ (F_X9_feedAt_109 k39 x1 x2 x3 x4 x5 σ) := by
  rw [F_X9_feedAt_109]
  exact hk39 _ _ _ _ _ _ hσ
theorem kp_X9_feedAt_102 {μ : x_Hp} {k39 : Int32 → Int32 → Int32 → Int32 → Int32 → x_Hp → Option (Int32 × x_Hp)} (hk39 : ∀ a0 a1 a2 a3 a4 σ, kR μ σ → kp μ (k39 a0 a1 a2 a3 a4 σ)) (x1 : Int32) (x2 : Int32) (x5 : Int32) (x6 : Int32) {σ : x_Hp} (hσ : kR μ σ) : kp μ (F_X9_feedAt_102 k39 x1 x2 x5 x6 σ) := by
  rw [F_X9_feedAt_102]
  exact kp_X9_feedAt_109 hk39 _ _ _ _ _ hσ
theorem kp_X9_feedAt_39 {μ : x_Hp} : ∀ (n : Nat) (x1 : Int32) (x2 : Int32) (x3 : Int32) (x4 : Int32) (x5 : Int32) {σ : x_Hp}, kR μ σ → kp μ (F_X9_feedAt_39 n x1 x2 x3 x4 x5 σ) := by
  intro n
  induction n with
  | zero =>
    intros
    rw [F_X9_feedAt_39]
    exact kp_none
  | succ n ih =>
    intro x1 x2 x3 x4 x5 σ hσ
    rw [F_X9_feedAt_39]
    exact kp_if (kp_if (kp_ret hσ) (kp_ret hσ)) (kp_b (kp_X9_copies   hσ) (fun _ σ4 hσ4 => kp_b (kp_X9_cries  _ hσ4) (fun v5 σ5 hσ5 => kp_if (kp_b (kp_X9_feedsNow   hσ5) (fun _ σ6 hσ6 => kp_b (kp_X9_cries  _ hσ6) (fun v7 σ7 hσ7 => kp_if (kp_X9_feedAt_102 ih _ _ _ _ hσ7) (kp_if (kp_X9_feedAt_102 ih _ _ _ _ hσ7) (kp_X9_feedAt_109 ih _ _ _ _ _ hσ7))))) (kp_X9_feedAt_109 ih _ _ _ _ _ hσ5))))
theorem kp_X9_feedAt {μ : x_Hp} (x1 : Int32) (x2 : Int32) {σ : x_Hp} (hσ : kR μ σ) : kp μ (F_X9_feedAt x1 x2 σ) := by
  rw [F_X9_feedAt]
  exact kp_b (kp_X9_in  _ _ _ hσ) (fun v1 σ1 hσ1 => kp_if (kp_ret hσ1) (kp_b (kp_X9_in  _ _ _ hσ1) (fun v2 σ2 hσ2 => kp_if (kp_ret hσ2) (kp_b (kp_X9_isAwake   hσ2) (fun v3 σ3 hσ3 => kp_if (kp_ret hσ3) (kp_X9_feedAt_39  _ _ _ _ _ _ hσ3))))))
theorem kp_X9_peak_64 {μ : x_Hp} {k34 : Int32 → Int32 → Int32 → Int32 → Int32 → x_Hp → Option (Int32 × x_Hp)} (hk34 : ∀ a0 a1 a2 a3 a4 σ, kR μ σ → kp μ (k34 a0 a1 a2 a3 a4 σ)) (x1 : Int32) (x2 : Int32) (x3 : Int32) (x4 : Int32) (x5 : Int32) {σ : x_Hp} (hσ : kR μ σ) : kp μ (F_X9_peak_64 k34 x1 x2 x3 x4 x5 σ) := by
  rw [F_X9_peak_64]
  exact hk34 _ _ _ _ _ _ hσ
theorem kp_X9_peak_34 {μ : x_Hp} : ∀ (n : Nat) (x1 : Int32) (x2 : Int32) (x3 : Int32) (x4 : Int32) (x5 : Int32) {σ : x_Hp}, kR μ σ → kp μ (F_X9_peak_34 n x1 x2 x3 x4 x5 σ) := by
  intro n
  induction n with
  | zero =>
    intros
    rw [F_X9_peak_34]
    exact kp_none
  | succ n ih =>
    intro x1 x2 x3 x4 x5 σ hσ
    rw [F_X9_peak_34]
    exact kp_if (kp_if (kp_ret hσ) (kp_ret hσ)) (kp_b (kp_X9_cries  _ hσ) (fun v4 σ4 hσ4 => kp_if (kp_X9_peak_64 ih _ _ _ _ _ hσ4) (kp_X9_peak_64 ih _ _ _ _ _ hσ4)))
theorem kp_X9_peak {μ : x_Hp} (x1 : Int32) (x2 : Int32) {σ : x_Hp} (hσ : kR μ σ) : kp μ (F_X9_peak x1 x2 σ) := by
  rw [F_X9_peak]
  exact kp_b (kp_X9_in  _ _ _ hσ) (fun v1 σ1 hσ1 => kp_if (kp_ret hσ1) (kp_b (kp_X9_in  _ _ _ hσ1) (fun v2 σ2 hσ2 => kp_if (kp_ret hσ2) (kp_b (kp_X9_copies   hσ2) (fun _ σ3 hσ3 => kp_X9_peak_34  _ _ _ _ _ _ hσ3)))))
theorem kp_X9_merry_6 {μ : x_Hp} : ∀ (n : Nat) (x1 : Int32) {σ : x_Hp}, kR μ σ → kp μ (F_X9_merry_6 n x1 σ) := by
  intro n
  induction n with
  | zero =>
    intros
    rw [F_X9_merry_6]
    exact kp_none
  | succ n ih =>
    intro x1 σ hσ
    rw [F_X9_merry_6]
    exact kp_if (kp_ret hσ) (kp_b (kp_X9_minuteGoes   hσ) (fun _ σ2 hσ2 => kp_if (ih _ hσ2) (kp_ret hσ2)))
theorem kp_X9_merry {μ : x_Hp} {σ : x_Hp} (hσ : kR μ σ) : kp μ (F_X9_merry σ) := by
  rw [F_X9_merry]
  exact kp_b (kp_X9_copies   hσ) (fun _ σ1 hσ1 => kp_X9_merry_6  _ _ hσ1)
theorem kp_X9_sleeps_6 {μ : x_Hp} : ∀ (n : Nat) (x1 : Int32) {σ : x_Hp}, kR μ σ → kp μ (F_X9_sleeps_6 n x1 σ) := by
  intro n
  induction n with
  | zero =>
    intros
    rw [F_X9_sleeps_6]
    exact kp_none
  | succ n ih =>
    intro x1 σ hσ
    rw [F_X9_sleeps_6]
    exact kp_if (kp_ret hσ) (kp_if (kp_b (kp_X9_minuteGoes   hσ) (fun _ σ2 hσ2 => ih _ hσ2)) (kp_ret hσ))
theorem kp_X9_sleeps {μ : x_Hp} {σ : x_Hp} (hσ : kR μ σ) : kp μ (F_X9_sleeps σ) := by
  rw [F_X9_sleeps]
  exact kp_b (kp_X9_copies   hσ) (fun _ σ1 hσ1 => kp_X9_sleeps_6  _ _ hσ1)
theorem kp_X9_fillsRests_77 {μ : x_Hp} {k12 : Int32 → Int32 → Int32 → x_Hp → Option (Unit × x_Hp)} (hk12 : ∀ a0 a1 a2 σ, kR μ σ → kp μ (k12 a0 a1 a2 σ)) : ∀ (n : Nat) (x1 : Int32) (x2 : Int32) (x3 : Int32) (x4 : Int32) {σ : x_Hp}, kR μ σ → kp μ (F_X9_fillsRests_77 k12 n x1 x2 x3 x4 σ) := by
  intro n
  induction n with
  | zero =>
    intros
    rw [F_X9_fillsRests_77]
    exact kp_none
  | succ n ih =>
    intro x1 x2 x3 x4 σ hσ
    rw [F_X9_fillsRests_77]
    exact kp_if (hk12 _ _ _ _ hσ) (kp_gd (kp_gd (kp_pt (kR.pI hσ (fun q => absurd q.1 (by decide))) (fun σ5 hσ5 => ih _ _ _ _ hσ5))))
theorem kp_X9_fillsRests_65 {μ : x_Hp} {k12 : Int32 → Int32 → Int32 → x_Hp → Option (Unit × x_Hp)} (hk12 : ∀ a0 a1 a2 σ, kR μ σ → kp μ (k12 a0 a1 a2 σ)) {k26 : Int32 → Int32 → Int32 → Int32 → x_Hp → Option (Unit × x_Hp)} (hk26 : ∀ a0 a1 a2 a3 σ, kR μ σ → kp μ (k26 a0 a1 a2 a3 σ)) (x1 : Int32) (x2 : Int32) (x3 : Int32) (x4 : Int32) (s0 : Int32) (s1 : Int32) {σ : x_Hp} (hσ : kR μ σ) : kp μ (F_X9_fillsRests_65 k12 k26 x1 x2 x3 x4 s0 s1 σ) := by
  rw [F_X9_fillsRests_65]
  exact kp_b (kp_X9_gives  _ _ hσ) (fun _ σ6 hσ6 => hk26 _ _ _ _ _ hσ6)
theorem kp_X9_fillsRests_26 {μ : x_Hp} {k12 : Int32 → Int32 → Int32 → x_Hp → Option (Unit × x_Hp)} (hk12 : ∀ a0 a1 a2 σ, kR μ σ → kp μ (k12 a0 a1 a2 σ)) : ∀ (n : Nat) (x1 : Int32) (x2 : Int32) (x3 : Int32) (x4 : Int32) {σ : x_Hp}, kR μ σ → kp μ (F_X9_fillsRests_26 k12 n x1 x2 x3 x4 σ) := by
  intro n
  induction n with
  | zero =>
    intros
    rw [F_X9_fillsRests_26]
    exact kp_none
  | succ n ih =>
    intro x1 x2 x3 x4 σ hσ
    rw [F_X9_fillsRests_26]
    exact kp_if (kp_X9_fillsRests_77 hk12 _ _ _ _ _ hσ) (kp_gd (kp_if (kp_X9_fillsRests_65 hk12 ih _ _ _ _ _ _ hσ) (kp_X9_fillsRests_65 hk12 ih _ _ _ _ _ _ hσ)))
theorem kp_X9_fillsRests_12 {μ : x_Hp} : ∀ (n : Nat) (x1 : Int32) (x2 : Int32) (x3 : Int32) {σ : x_Hp}, kR μ σ → kp μ (F_X9_fillsRests_12 n x1 x2 x3 σ) := by
  intro n
  induction n with
  | zero =>
    intros
    rw [F_X9_fillsRests_12]
    exact kp_none
  | succ n ih =>
    intro x1 x2 x3 σ hσ
    rw [F_X9_fillsRests_12]
    exact kp_if (kp_ret hσ) (kp_b (kp_X9_starts   hσ) (fun _ σ2 hσ2 => kp_X9_fillsRests_26 ih _ _ _ _ _ hσ2))
theorem kp_X9_fillsRests {μ : x_Hp} (x1 : Int32) {σ : x_Hp} (hσ : kR μ σ) : kp μ (F_X9_fillsRests x1 σ) := by
  rw [F_X9_fillsRests]
  exact kp_gd (kp_X9_fillsRests_12  _ _ _ _ hσ)
theorem kp_X9_isResting_2 {μ : x_Hp} : ∀ (n : Nat) (x1 : Int32) (x2 : Int32) {σ : x_Hp}, kR μ σ → kp μ (F_X9_isResting_2 n x1 x2 σ) := by
  intro n
  induction n with
  | zero =>
    intros
    rw [F_X9_isResting_2]
    exact kp_none
  | succ n ih =>
    intro x1 x2 σ hσ
    rw [F_X9_isResting_2]
    exact kp_gd (kp_if (kp_ret hσ) (kp_gd (kp_gd (kp_if (ih _ _ hσ) (kp_ret hσ)))))
theorem kp_X9_isResting {μ : x_Hp} (x1 : Int32) {σ : x_Hp} (hσ : kR μ σ) : kp μ (F_X9_isResting x1 σ) := by
  rw [F_X9_isResting]
  exact kp_X9_isResting_2  _ _ _ hσ
theorem kp_X9_rests_73 {μ : x_Hp} {k34 : Int32 → Int32 → Int32 → x_Hp → Option (Int32 × x_Hp)} (hk34 : ∀ a0 a1 a2 σ, kR μ σ → kp μ (k34 a0 a1 a2 σ)) (x2 : Int32) (x3 : Int32) (x4 : Int32) {σ : x_Hp} (hσ : kR μ σ) : kp μ (F_X9_rests_73 k34 x2 x3 x4 σ) := by
  rw [F_X9_rests_73]
  exact hk34 _ _ _ _ hσ
theorem kp_X9_rests_34 {μ : x_Hp} : ∀ (n : Nat) (x2 : Int32) (x3 : Int32) (x4 : Int32) {σ : x_Hp}, kR μ σ → kp μ (F_X9_rests_34 n x2 x3 x4 σ) := by
  intro n
  induction n with
  | zero =>
    intros
    rw [F_X9_rests_34]
    exact kp_none
  | succ n ih =>
    intro x2 x3 x4 σ hσ
    rw [F_X9_rests_34]
    exact kp_gd (kp_if (kp_if (kp_ret hσ) (kp_ret hσ)) (kp_b (kp_X9_isResting  _ hσ) (fun v5 σ5 hσ5 => kp_if (kp_X9_rests_73 ih _ _ _ hσ5) (kp_if (kp_ret hσ5) (kp_X9_rests_73 ih _ _ _ hσ5)))))
theorem kp_X9_rests {μ : x_Hp} (x1 : Int32) (x2 : Int32) {σ : x_Hp} (hσ : kR μ σ) : kp μ (F_X9_rests x1 x2 σ) := by
  rw [F_X9_rests]
  exact kp_b (kp_X9_isShort  _ hσ) (fun v1 σ1 hσ1 => kp_if (kp_ret hσ1) (kp_if (kp_b (kp_X9_isAwake   hσ1) (fun v2 σ2 hσ2 => kp_if (kp_ret hσ2) (kp_b (kp_X9_fillsRests  _ hσ2) (fun _ σ3 hσ3 => kp_X9_rests_34  _ _ _ _ hσ3)))) (kp_ret hσ1)))
theorem kp_X9_silk_27 {μ : x_Hp} : ∀ (n : Nat) (x1 : Int32) (x2 : Int32) (x3 : Int32) (x4 : Int32) {σ : x_Hp}, kR μ σ → kp μ (F_X9_silk_27 n x1 x2 x3 x4 σ) := by
  intro n
  induction n with
  | zero =>
    intros
    rw [F_X9_silk_27]
    exact kp_none
  | succ n ih =>
    intro x1 x2 x3 x4 σ hσ
    rw [F_X9_silk_27]
    exact kp_if (kp_ret hσ) (kp_b (kp_X9_copies   hσ) (fun _ σ3 hσ3 => kp_pt (kR.pI hσ3 (fun q => absurd q.2 (by decide))) (fun σ4 hσ4 => kp_b (kp_X9_goes  _ hσ4) (fun _ σ5 hσ5 => ih _ _ _ _ hσ5))))
theorem kp_X9_silk {μ : x_Hp} (x1 : Int32) (x2 : Int32) {σ : x_Hp} (hσ : kR μ σ) : kp μ (F_X9_silk x1 x2 σ) := by
  rw [F_X9_silk]
  exact kp_b (kp_X9_in  _ _ _ hσ) (fun v1 σ1 hσ1 => kp_if (kp_ret hσ1) (kp_b (kp_X9_in  _ _ _ hσ1) (fun v2 σ2 hσ2 => kp_if (kp_ret hσ2) (kp_X9_silk_27  _ _ _ _ _ hσ2))))
theorem kp_X9_common_4 {μ : x_Hp} : ∀ (n : Nat) (x2 : Int32) (x3 : Int32) {σ : x_Hp}, kR μ σ → kp μ (F_X9_common_4 n x2 x3 σ) := by
  intro n
  induction n with
  | zero =>
    intros
    rw [F_X9_common_4]
    exact kp_none
  | succ n ih =>
    intro x2 x3 σ hσ
    rw [F_X9_common_4]
    exact kp_if (kp_ret hσ) (kp_gd (ih _ _ hσ))
theorem kp_X9_common {μ : x_Hp} (x0 : Int32) (x1 : Int32) {σ : x_Hp} (hσ : kR μ σ) : kp μ (F_X9_common x0 x1 σ) := by
  rw [F_X9_common]
  exact kp_X9_common_4  _ _ _ hσ
theorem kp_X9_likes {μ : x_Hp} (x1 : Int32) (x2 : Int32) {σ : x_Hp} (hσ : kR μ σ) : kp μ (F_X9_likes x1 x2 σ) := by
  rw [F_X9_likes]
  exact kp_b (kp_X9_isAunt  _ hσ) (fun v1 σ1 hσ1 => kp_if (kp_ret hσ1) (kp_gd (kp_if (kp_ret hσ1) (kp_gd (kp_b (kp_X9_common  _ _ hσ1) (fun v4 σ4 hσ4 => kp_if (kp_gd (kp_gd (kp_ret hσ4))) (kp_gd (kp_ret hσ4))))))))
theorem kp_X9_tell {μ : x_Hp} (x1 : Int32) (x2 : Int32) {σ : x_Hp} (hσ : kR μ σ) : kp μ (F_X9_tell x1 x2 σ) := by
  rw [F_X9_tell]
  exact kp_if (kp_ret hσ) (kp_b (kp_X9_in  _ _ _ hσ) (fun v1 σ1 hσ1 => kp_if (kp_ret hσ1) (kp_b (kp_X9_in  _ _ _ hσ1) (fun v2 σ2 hσ2 => kp_if (kp_ret hσ2) (kp_gd (kp_pt (kR.pI hσ2 (fun q => absurd q.1 (by decide))) (fun σ4 hσ4 => kp_gd (kp_pt (kR.pI hσ4 (fun q => absurd q.1 (by decide))) (fun σ6 hσ6 => kp_pt (kR.pI hσ6 (fun q => absurd q.2 (by decide))) (fun σ7 hσ7 => kp_ret hσ7))))))))))
theorem kp_X9_forget {μ : x_Hp} {σ : x_Hp} (hσ : kR μ σ) : kp μ (F_X9_forget σ) := by
  rw [F_X9_forget]
  exact kp_pt (kR.pI hσ (fun q => absurd q.2 (by decide))) (fun σ1 hσ1 => kp_ret hσ1)
theorem kp_X9_isSo_100 {μ : x_Hp} {k50 : Int32 → Int32 → Int32 → x_Hp → Option (Int32 × x_Hp)} (hk50 : ∀ a0 a1 a2 σ, kR μ σ → kp μ (k50 a0 a1 a2 σ)) {k63 : Int32 → Int32 → Int32 → Int32 → x_Hp → Option (Int32 × x_Hp)} (hk63 : ∀ a0 a1 a2 a3 σ, kR μ σ → kp μ (k63 a0 a1 a2 a3 σ)) (x2 : Int32) (x3 : Int32) (x4 : Int32) (x5 : Int32) {σ : x_Hp} (hσ : kR μ σ) : kp μ (F_X9_isSo_100 k50 k63 x2 x3 x4 x5 σ) := by
  rw [F_X9_isSo_100]
  exact hk63 _ _ _ _ _ hσ
theorem kp_X9_isSo_63 {μ : x_Hp} {k50 : Int32 → Int32 → Int32 → x_Hp → Option (Int32 × x_Hp)} (hk50 : ∀ a0 a1 a2 σ, kR μ σ → kp μ (k50 a0 a1 a2 σ)) : ∀ (n : Nat) (x2 : Int32) (x3 : Int32) (x4 : Int32) (x5 : Int32) {σ : x_Hp}, kR μ σ → kp μ (F_X9_isSo_63 k50 n x2 x3 x4 x5 σ) := by
  intro n
  induction n with
  | zero =>
    intros
    rw [F_X9_isSo_63]
    exact kp_none
  | succ n ih =>
    intro x2 x3 x4 x5 σ hσ
    rw [F_X9_isSo_63]
    exact kp_if (hk50 _ _ _ _ hσ) (kp_gd (kp_if (kp_gd (kp_if (kp_X9_isSo_100 hk50 ih _ _ _ _ hσ) (kp_ret hσ))) (kp_X9_isSo_100 hk50 ih _ _ _ _ hσ)))
theorem kp_X9_isSo_50 {μ : x_Hp} : ∀ (n : Nat) (x2 : Int32) (x3 : Int32) (x4 : Int32) {σ : x_Hp}, kR μ σ → kp μ (F_X9_isSo_50 n x2 x3 x4 σ) := by
  intro n
  induction n with
  | zero =>
    intros
    rw [F_X9_isSo_50]
    exact kp_none
  | succ n ih =>
    intro x2 x3 x4 σ hσ
    rw [F_X9_isSo_50]
    exact kp_if (kp_ret hσ) (kp_b (kp_X9_minuteGoes   hσ) (fun _ σ5 hσ5 => kp_X9_isSo_63 ih _ _ _ _ _ hσ5))
theorem kp_X9_isSo_41 {μ : x_Hp} {k16 : Int32 → Int32 → Int32 → x_Hp → Option (Int32 × x_Hp)} (hk16 : ∀ a0 a1 a2 σ, kR μ σ → kp μ (k16 a0 a1 a2 σ)) (x2 : Int32) (x3 : Int32) (x4 : Int32) {σ : x_Hp} (hσ : kR μ σ) : kp μ (F_X9_isSo_41 k16 x2 x3 x4 σ) := by
  rw [F_X9_isSo_41]
  exact hk16 _ _ _ _ hσ
theorem kp_X9_isSo_16 {μ : x_Hp} : ∀ (n : Nat) (x2 : Int32) (x3 : Int32) (x4 : Int32) {σ : x_Hp}, kR μ σ → kp μ (F_X9_isSo_16 n x2 x3 x4 σ) := by
  intro n
  induction n with
  | zero =>
    intros
    rw [F_X9_isSo_16]
    exact kp_none
  | succ n ih =>
    intro x2 x3 x4 σ hσ
    rw [F_X9_isSo_16]
    exact kp_if (kp_X9_isSo_50  _ _ _ _ hσ) (kp_gd (kp_if (kp_X9_isSo_41 ih _ _ _ hσ) (kp_gd (kp_X9_isSo_41 ih _ _ _ hσ))))
theorem kp_X9_isSo {μ : x_Hp} (x1 : Int32) (x2 : Int32) {σ : x_Hp} (hσ : kR μ σ) : kp μ (F_X9_isSo x1 x2 σ) := by
  rw [F_X9_isSo]
  exact kp_b (kp_X9_begins   hσ) (fun _ σ1 hσ1 => kp_pt (kR.pI hσ1 (fun q => absurd q.1 (by decide))) (fun σ2 hσ2 => kp_X9_isSo_16  _ _ _ _ hσ2))
theorem kp_X9_fed_55 {μ : x_Hp} {k24 : Int32 → Int32 → Int32 → Int32 → x_Hp → Option (Int32 × x_Hp)} (hk24 : ∀ a0 a1 a2 a3 σ, kR μ σ → kp μ (k24 a0 a1 a2 a3 σ)) (x1 : Int32) (x2 : Int32) (x3 : Int32) (x4 : Int32) {σ : x_Hp} (hσ : kR μ σ) : kp μ (F_X9_fed_55 k24 x1 x2 x3 x4 σ) := by
  rw [F_X9_fed_55]
  exact hk24 _ _ _ _ _ hσ
theorem kp_X9_fed_24 {μ : x_Hp} : ∀ (n : Nat) (x1 : Int32) (x2 : Int32) (x3 : Int32) (x4 : Int32) {σ : x_Hp}, kR μ σ → kp μ (F_X9_fed_24 n x1 x2 x3 x4 σ) := by
  intro n
  induction n with
  | zero =>
    intros
    rw [F_X9_fed_24]
    exact kp_none
  | succ n ih =>
    intro x1 x2 x3 x4 σ hσ
    rw [F_X9_fed_24]
    exact kp_if (kp_if (kp_ret hσ) (kp_ret hσ)) (kp_b (kp_X9_isSo  _ _ hσ) (fun v2 σ2 hσ2 => kp_if (kp_X9_fed_55 ih _ _ _ _ hσ2) (kp_if (kp_ret hσ2) (kp_X9_fed_55 ih _ _ _ _ hσ2))))
theorem kp_X9_fed {μ : x_Hp} (x1 : Int32) (x2 : Int32) {σ : x_Hp} (hσ : kR μ σ) : kp μ (F_X9_fed x1 x2 σ) := by
  rw [F_X9_fed]
  exact kp_b (kp_X9_in  _ _ _ hσ) (fun v1 σ1 hσ1 => kp_if (kp_ret hσ1) (kp_if (kp_X9_fed_24  _ _ _ _ _ hσ1) (kp_ret hσ1)))
theorem kp_X9_hold_20 {μ : x_Hp} : ∀ (n : Nat) (x1 : Int32) (x2 : Int32) {σ : x_Hp}, kR μ σ → kp μ (F_X9_hold_20 n x1 x2 σ) := by
  intro n
  induction n with
  | zero =>
    intros
    rw [F_X9_hold_20]
    exact kp_none
  | succ n ih =>
    intro x1 x2 σ hσ
    rw [F_X9_hold_20]
    exact kp_if (kp_ret hσ) (kp_gd (kp_gd (kp_pt (kR.pI hσ (fun q => absurd q.1 (by decide))) (fun σ6 hσ6 => ih _ _ hσ6))))
theorem kp_X9_hold {μ : x_Hp} (x1 : Int32) {σ : x_Hp} (hσ : kR μ σ) : kp μ (F_X9_hold x1 σ) := by
  rw [F_X9_hold]
  exact kp_b (kp_X9_in  _ _ _ hσ) (fun v1 σ1 hσ1 => kp_if (kp_ret hσ1) (kp_gd (kp_pt (kR.pI hσ1 (fun q => absurd q.1 (by decide))) (fun σ3 hσ3 => kp_X9_hold_20  _ _ _ hσ3))))
theorem kp_X9_restore_22 {μ : x_Hp} : ∀ (n : Nat) (x1 : Int32) (x2 : Int32) {σ : x_Hp}, kR μ σ → kp μ (F_X9_restore_22 n x1 x2 σ) := by
  intro n
  induction n with
  | zero =>
    intros
    rw [F_X9_restore_22]
    exact kp_none
  | succ n ih =>
    intro x1 x2 σ hσ
    rw [F_X9_restore_22]
    exact kp_if (kp_pt (kR.pI hσ (fun q => absurd q.2 (by decide))) (fun σ3 hσ3 => kp_ret hσ3)) (kp_gd (kp_gd (kp_pt (kR.pI hσ (fun q => absurd q.1 (by decide))) (fun σ6 hσ6 => ih _ _ hσ6))))
theorem kp_X9_restore {μ : x_Hp} (x1 : Int32) {σ : x_Hp} (hσ : kR μ σ) : kp μ (F_X9_restore x1 σ) := by
  rw [F_X9_restore]
  exact kp_b (kp_X9_in  _ _ _ hσ) (fun v1 σ1 hσ1 => kp_if (kp_ret hσ1) (kp_gd (kp_if (kp_ret hσ1) (kp_X9_restore_22  _ _ _ hσ1))))
theorem kp_X9_count_135 {μ : x_Hp} (s0 : Int32) (s1 : Int32) {σ : x_Hp} (hσ : kR μ σ) : kp μ (F_X9_count_135 s0 s1 σ) := by
  rw [F_X9_count_135]
  exact kp_if (kp_ret hσ) (kp_ret hσ)
theorem kp_X9_count_121 {μ : x_Hp} (s0 : Int32) {σ : x_Hp} (hσ : kR μ σ) : kp μ (F_X9_count_121 s0 σ) := by
  rw [F_X9_count_121]
  exact kp_if (kp_X9_count_135  _ _ hσ) (kp_X9_count_135  _ _ hσ)
theorem kp_X9_count {μ : x_Hp} (x1 : Int32) {σ : x_Hp} (hσ : kR μ σ) : kp μ (F_X9_count x1 σ) := by
  rw [F_X9_count]
  exact kp_if (kp_gd (kp_ret hσ)) (kp_if (kp_gd (kp_ret hσ)) (kp_if (kp_gd (kp_ret hσ)) (kp_if (kp_gd (kp_ret hσ)) (kp_if (kp_gd (kp_ret hσ)) (kp_if (kp_gd (kp_ret hσ)) (kp_if (kp_gd (kp_ret hσ)) (kp_if (kp_ret hσ) (kp_if (kp_ret hσ) (kp_if (kp_ret hσ) (kp_if (kp_if (kp_X9_count_121  _ hσ) (kp_X9_count_121  _ hσ)) (kp_if (kp_gd (kp_ret hσ)) (kp_if (kp_gd (kp_ret hσ)) (kp_if (kp_ret hσ) (kp_ret hσ))))))))))))))
