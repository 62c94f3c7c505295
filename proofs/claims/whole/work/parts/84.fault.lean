/-! READING: a fault, and all stays as it was -/
section HALF
variable {lv : Nat} {μ ν : x_Hp}
theorem y_keep (hlv : lv < 2) (e : y_Rf (1 - lv) μ ν) {a b : Nat} (h : (a = 9 ∧ 4 * lv ≤ b ∧ b < 4 * lv + 4) ∨ (a = 10 ∧ b = lv) ∨ (11 ≤ a ∧ a ≤ 15 ∧ 6 * lv ≤ b ∧ b < 6 * lv + 6) ∨ (16 ≤ a ∧ a ≤ 18 ∧ b = lv) ∨ (19 ≤ a ∧ a ≤ 20 ∧ 7 * lv ≤ b ∧ b < 7 * lv + 7) ∨ (21 ≤ a ∧ a ≤ 25 ∧ 130 * lv ≤ b ∧ b < 130 * lv + 130) ∨ (26 ≤ a ∧ a ≤ 27 ∧ 420 * lv ≤ b ∧ b < 420 * lv + 420)) : ν.1 a b = μ.1 a b := by
  refine e.1 a b ?_
  unfold y_Fs
  omega
theorem y_cd.half (hlv : lv < 2) (e : y_Rf (1 - lv) μ ν) {a b : Int32} {c1 c2 : Nat} (h1 : a = nI c1) (h2 : b = nI c2) (g1 : 420 * lv ≤ c1) (g1' : c1 ≤ 420 * lv + 420) (g2 : c2 ≤ 420 * lv + 420) {cs : List Int32} (h : y_cd μ a b cs) : y_cd ν a b cs := by
  obtain ⟨m, f, f1, f2, f3, f4⟩ := h
  have e1 : f = c1 := (nI_eq (by omega) (by omega)).mp (f1.symm.trans h1)
  have e2 : f + cs.length = c2 := (nI_eq (by omega) (by omega)).mp (f2.symm.trans h2)
  refine ⟨m, f, f1, f2, f3, fun i hi => ?_⟩
  rw [y_keep hlv e (a := 26) (b := f + i) (by omega), y_keep hlv e (a := 27) (b := f + i) (by omega)]
  exact f4 i hi
theorem y_brs.half (hlv : lv < 2) (e : y_Rf (1 - lv) μ ν) {z : List Int32} : ∀ (qs : List (List Int32 × List Int32 × List Int32)) (f : Nat), y_rg μ lv f qs.length → y_brs μ f qs z → y_brs ν f qs z
  | [], f, ⟨r1, r2, r3⟩, ⟨b1, b2, b3⟩ => by
    have r2' : f + 0 + 1 ≤ 130 * lv + 130 := r2
    obtain ⟨c1, p1, p2, p3⟩ := r3 f 24 (Nat.le_refl _) (Nat.le_refl _) (by omega) (by omega) (Or.inl (by omega))
    obtain ⟨c2, q1, q2, q3⟩ := r3 f 25 (Nat.le_refl _) (Nat.le_refl _) (by omega) (by omega) (Or.inl (by omega))
    have k : ∀ a, 21 ≤ a → a ≤ 25 → ν.1 a f = μ.1 a f := fun a a1 a2 => y_keep hlv e (by omega)
    refine ⟨b1, by rw [k _ (by omega) (by omega)]; exact b2, ?_⟩
    rw [k _ (by omega) (by omega), k _ (by omega) (by omega)]
    exact y_cd.half hlv e p1 q1 p2 p3 q3 b3
  | t :: qs, f, ⟨r1, r2, r3⟩, ⟨b1, b2, b3, b4, b5, b6⟩ => by
    have r2' : f + (qs.length + 1) + 1 ≤ 130 * lv + 130 := r2
    have r3' : ∀ r, 22 ≤ r → r ≤ 25 → ∃ c : Nat, μ.1 r f = nI c ∧ 420 * lv ≤ c ∧ c ≤ 420 * lv + 420 := fun r z1 z2 => r3 f r (Nat.le_refl _) (Nat.le_add_right _ _) z1 z2 (Or.inr (by show f < f + (qs.length + 1); omega))
    obtain ⟨c1, p1, p2, p3⟩ := r3' 22 (by omega) (by omega)
    obtain ⟨c2, q1, q2, q3⟩ := r3' 23 (by omega) (by omega)
    obtain ⟨c3, s1, s2, s3⟩ := r3' 24 (by omega) (by omega)
    obtain ⟨c4, t1, t2, t3⟩ := r3' 25 (by omega) (by omega)
    have k : ∀ a, 21 ≤ a → a ≤ 25 → ν.1 a f = μ.1 a f := fun a a1 a2 => y_keep hlv e (by omega)
    refine ⟨b1, by rw [k _ (by omega) (by omega)]; exact b2, ?_, ?_, ?_, y_brs.half hlv e qs (f + 1) ⟨by omega, by omega, fun b r z1 z2 z3 z4 z5 => r3 b r (by omega) (by show b ≤ f + (qs.length + 1); omega) z3 z4 (z5.imp id (fun w => by show b < f + (qs.length + 1); omega))⟩ b6⟩
    · rw [k _ (by omega) (by omega), k _ (by omega) (by omega)]; exact y_cd.half hlv e p1 q1 p2 p3 q3 b3
    · rw [k _ (by omega) (by omega), k _ (by omega) (by omega)]; exact y_cd.half hlv e q1 s1 q2 q3 s3 b4
    · rw [k _ (by omega) (by omega), k _ (by omega) (by omega)]; exact y_cd.half hlv e s1 t1 s2 s3 t3 b5
theorem y_Tx.half {T : x_TT} {N : Nat} (h : y_Tx μ T lv N) (e : y_Rf (1 - lv) μ ν) : y_Tx ν T lv N := by
  obtain ⟨hlv, h2, h3, h4, h5, h6, h7, h8, h9, h10, h11⟩ := h
  refine ⟨hlv, h2, by rw [e.1 0 18 (by unfold y_Fs; omega)]; exact h3, h4, by rw [y_keep hlv e (by omega)]; exact h5, fun a ha => ?_, by rw [y_keep hlv e (by omega)]; exact h7, by rw [y_keep hlv e (by omega)]; exact h8, by rw [y_keep hlv e (by omega)]; exact h9, fun k hk => by rw [y_keep hlv e (by omega)]; exact h10 k hk, fun k hk => ?_⟩
  · rw [y_keep hlv e (a := 11) (by omega), y_keep hlv e (a := 12) (by omega), y_keep hlv e (a := 13) (by omega), y_keep hlv e (a := 14) (by omega), y_keep hlv e (a := 15) (by omega)]
    exact h6 a ha
  · rw [y_keep hlv e (a := 19) (b := 7 * lv + k) (by omega), y_keep hlv e (a := 20) (b := 7 * lv + k) (by omega)]
    rcases h11 k hk with q | ⟨f, q1, q2, q3, q4⟩
    · exact Or.inl q
    · refine Or.inr ⟨f, q1, q2, y_brs.half hlv e _ _ q4 q3, q4.1, q4.2.1, fun b r z1 z2 z3 z4 z5 => ?_⟩
      obtain ⟨r1, r2, r3⟩ := q4
      rw [y_keep hlv e (a := r) (b := b) (by omega)]
      exact r3 b r z1 z2 z3 z4 z5
end HALF
/-- all of both, and what the reading needs -/
def r_full (K : Nat) (σ μ : x_Hp) : Prop := r_rel K σ μ ∧ y_keys μ ∧ ∃ w, w ≤ 40 ∧ μ.1 0 44 = nI w
theorem d_faulty {K : Nat} {σ μ τ ν : x_Hp} {T : x_TT} {lv N : Nat} {v : x_V} {ch : Nat} (h1 : r_V σ μ T lv N (241 * K) v) (h2 : r_U σ μ T N (241 * K) ch) (h3 : ch ≤ K) (h4 : r_S σ μ T N (241 * K)) (h5 : r_T σ μ) (h6 : σ.1 30 0 = 0) (h7 : r_O σ T N v ch) (c : c_Rf σ τ) (y : y_Rf (1 - lv) μ ν) (y2 : ν.1 0 2 = 0) (pl : Int32) (hp : τ.1 14 11 = pl) : r_rel (K + 1) (x_pI τ 14 1 0) (x_pI ν 0 17 pl) := by
  have cc : ∀ a b, ¬ (a = 14 ∨ a = 16 ∨ a = 18 ∨ (19 ≤ a ∧ a ≤ 32 ∧ ¬ (a = 30 ∧ b = 0))) → (x_pI τ 14 1 0).1 a b = σ.1 a b := fun a b q => by rw [x_pI_1, if_neg (by omega), c a b (by omega)]
  have yy : ∀ a b, (28 < a) ∨ (a = 0 ∧ (b = 54 ∨ b = 68)) → (x_pI ν 0 17 pl).1 a b = μ.1 a b := fun a b q => by rw [x_pI_1, if_neg (by omega), y.1 a b (by unfold y_Fs; omega)]
  refine ⟨T, lv, N, v, ch, ?_, (h2.ag (fun a b q1 q2 => cc a b (by omega)) (yy _ _ (by omega)) (fun b => yy _ _ (by omega))).mono (by omega), by omega, (h4.ag (fun a b q => cc a b (by omega)) (fun a b q => yy a b (by omega))).mono (by omega), h5.ag (fun a b q => cc a b (by omega)) (fun a b q => yy a b (by omega)), ⟨⟨0, by omega, by rw [x_pI_1, if_pos ⟨rfl, rfl⟩]; rfl, by rw [x_pI_1, if_neg (by omega), y2]; rfl, by rw [x_pI_1, if_neg (by omega), x_pI_1, if_pos ⟨rfl, rfl⟩, hp], fun j hj => by omega⟩, by rw [cc _ _ (by omega)]; exact h6⟩, h7.ag (fun a b q1 q2 => cc a b (by omega))⟩
  obtain ⟨a1, a2, a3, a4, a5, a6⟩ := h1
  have a2' := a2.half y
  refine ⟨a1.ag (fun a b q => cc a b (by omega)), a2'.agt ⟨by rw [x_pI_1, if_neg (by omega)], fun a b q1 q2 => by rw [x_pI_1, if_neg (by omega)]⟩, a3, ?_, a5.mono (by omega), fun k hk => by rw [yy _ _ (by omega)]; exact a6 k hk⟩
  rw [← a4]
  exact gS_ag 35 (fun b => cc _ _ (by omega)) (fun b => cc _ _ (by omega))
