/-! READING: both read the same tape -/
def c_Rf (σ τ : x_Hp) : Prop := ∀ a b, ¬ ((a = 14 ∧ b ≠ 1) ∨ a = 16 ∨ a = 18 ∨ (19 ≤ a ∧ a ≤ 32 ∧ ¬ (a = 30 ∧ b = 0))) → τ.1 a b = σ.1 a b
def y_Rf (sd : Nat) (μ ν : x_Hp) : Prop := (∀ a b, ¬ (y_Fs sd a b ∨ (2 ≤ a ∧ a ≤ 5) ∨ (a = 0 ∧ (b = 2 ∨ b = 4 ∨ b = 10 ∨ b = 19))) → ν.1 a b = μ.1 a b) ∧ ∀ a b, a ≠ 6 → a ≠ 8 → ν.2 a b = μ.2 a b
theorem v_byte (x : Int32) : vp_nar .byte x &&& 255 = x &&& 255 := bp_b x
theorem y_copied {n : Nat} (hn : n ≤ 2000) {μ : x_Hp} (h4 : μ.1 0 4 = nI n) : ∃ g ν, F_X9_read_10 x_fuel 0 μ = F_X9_read_10 (g + 1) (nI n) ν ∧ (∀ j, j < n → ν.1 2 j &&& 255 = μ.1 1 j &&& 255) ∧ (∀ a b, a ≠ 2 → ν.1 a b = μ.1 a b) ∧ ∀ a b, ν.2 a b = μ.2 a b := by
  obtain ⟨g, e⟩ := y_fill0 (F := fun n i μ => F_X9_read_10 n i μ) (r := 2) (b := 0) (L := n) (by omega) (f := fun j => vp_nar .byte (μ.1 1 j)) (P := fun _ ν => ν.1 0 4 = nI n ∧ ∀ j, ν.1 1 j = μ.1 1 j) (fun i σ hi hp => ⟨by rw [x_pI_1, if_neg (by omega)]; exact hp.1, fun j => by rw [x_pI_1, if_neg (by omega)]; exact hp.2 j⟩) (fun f i σ hi hp => by
    rw [F_X9_read_10, hp.1, if_neg (nI_ge hi (by omega)), x_gd_t (x_inb_nI (by omega) (by decide)), x_gd_t (x_inb_nI (by omega) (by decide)), x_pt_s, x_ix_nI (by omega), hp.2 i, nI_1, Nat.zero_add]) (σ := μ) ⟨h4, fun _ => rfl⟩
  refine ⟨g, _, e, fun j hj => ?_, fun a b h => y_fl_o _ _ _ _ _ (by omega), fun a b => rfl⟩
  have := y_fl_in μ 2 0 n (fun j => vp_nar .byte (μ.1 1 j)) hj
  rw [Nat.zero_add] at this
  rw [this]; exact v_byte _
theorem t_fin.ag {σ μ ν : x_Hp} {K P : Nat → Nat} {m : Nat} (h : t_fin σ μ K P m) (h1 : ∀ a b, 3 ≤ a → a ≤ 5 → ν.1 a b = μ.1 a b) (h2 : ∀ b, ν.2 6 b = μ.2 6 b) : t_fin σ ν K P m := by
  obtain ⟨a1, a2, a3, a4⟩ := h
  refine ⟨a1, a2, fun j hj => ?_, a4⟩
  obtain ⟨t1, t2, t3, t4, t5, t6, t7, t8⟩ := a3 j hj
  refine ⟨t1, t2, t3, t4, by rw [h1 _ _ (by omega) (by omega)]; exact t5, by rw [h1 _ _ (by omega) (by omega)]; exact t6, fun q => ?_, fun q => by rw [h2]; exact t8 q⟩
  obtain ⟨w, w1, w2, w3⟩ := t7 q
  exact ⟨w, w1, w2, by rw [h1 _ _ (by omega) (by omega)]; exact w3⟩
def n_L0 : x_LW := fun k => ([], [if k < 2 then 1 else 0])
/-- the plain laws, both -/
theorem p_TL0 {sd : Nat} {σ μ : x_Hp} (e1 : σ.1 28 1 = nI 7) (e2 : σ.1 28 3 = nI 7) (e3 : ∀ j, j ≤ 7 → σ.1 30 j = nI j) (e4 : ∀ k, k < 7 → σ.1 29 k = n_pl k ∧ σ.1 31 k = nI k ∧ σ.1 32 k = nI 0) (y1 : μ.1 0 40 = nI (420 * sd)) (y2 : μ.1 0 12 = 0) (y3 : μ.1 0 34 = nI (130 * sd)) (y4 : ∃ w, w ≤ 40 ∧ μ.1 0 44 = nI w) (y5 : ∀ k, k < 7 → μ.1 19 (7 * sd + k) = 0 ∧ μ.1 20 (7 * sd + k) = 0) : p_TL sd 7 7 (420 * sd) 0 0 7 n_L0 σ μ := by
  obtain ⟨w, w1, w2⟩ := y4
  refine ⟨by omega, by omega, by omega, by omega, e1, e2, e3 7 (by omega), y1, y2, y3, ⟨w, w1, w2, Or.inr rfl⟩, fun k hk _ => ?_, fun k hk _ => Or.inl ⟨?_, rfl⟩⟩
  · obtain ⟨u1, u2, u3⟩ := e4 k hk
    have mo : ∀ x : Nat, m_ok [if x < 2 then (1 : Int32) else 0] := fun x => by
      by_cases q : x < 2
      · rw [if_pos q]; show m_dep [1] 0 = some 1; decide
      · rw [if_neg q]; show m_dep [0] 0 = some 1; decide
    refine ⟨k, u2, u3, trivial, ?_⟩
    show c_pc 7 7 σ (k + 3 * 0) [if k < 2 then 1 else 0]
    refine ⟨by omega, mo k, k, e3 k (by omega), e3 (k + 1) (by omega), by show k + 1 ≤ 7; omega, fun i hi => ?_⟩
    have : i = 0 := by simpa using hi
    subst this
    exact u1
  · rw [(y5 k hk).1, (y5 k hk).2]
/-- what both have read -/
def p_RD (sd : Nat) (τ ν : x_Hp) : Prop := (∃ h S N C bn L A P, h ≤ 400 ∧ ν.1 0 13 = 0 ∧ p_nt P h τ ν ∧ p_TL sd S N C bn h 7 L τ ν ∧ 4 * bn ≤ h ∧ p_TN sd A τ ν) ∨ ∃ k pl, (k = 1 ∨ k = 2) ∧ τ.1 14 10 = nI k ∧ τ.1 14 11 = nI pl ∧ ν.1 0 13 = nI k ∧ ν.1 0 14 = nI pl ∧ ∃ w, w ≤ 40 ∧ ν.1 0 44 = nI w
theorem p_reads {σ μ : x_Hp} {lv : Nat} (hlv : lv < 2) (h18 : μ.1 0 18 = nI lv) (hP : r_P σ μ) (hk : y_keys μ) (hw : ∃ w, w ≤ 40 ∧ μ.1 0 44 = nI w) : ∃ τ ν, F_X4_readTape σ = F_X4_readTape_61 τ ∧ F_X9_read μ = F_X9_read_134 ν ∧ c_Rf σ τ ∧ y_Rf (1 - lv) μ ν ∧ ν.1 0 2 = 0 ∧ ν.1 0 19 = nI (1 - lv) ∧ p_RD (1 - lv) τ ν := by
  have hsd : 1 - lv < 2 := by omega
  have es : (1 : Int32) - nI lv = nI (1 - lv) := by rw [show (1 : Int32) = nI 1 from rfl, pk_sub (by omega)]
  generalize hs : 1 - lv = sd at hsd es ⊢
  obtain ⟨⟨n, n1, n2, n3, n4, n5⟩, n6⟩ := hP
  -- the class, to its scan
  have e1 : ∀ a b, ¬ (a = 14 ∧ (b = 10 ∨ b = 11)) → (x_pI (x_pI σ 14 10 0) 14 11 (-1)).1 a b = σ.1 a b := fun a b q => by rw [x_pI_1, if_neg (by omega), x_pI_1, if_neg (by omega)]
  obtain ⟨σ3, a1, a2⟩ := c_begin (σ := x_pI (x_pI σ 14 10 0) 14 11 (-1)) (by rw [e1 _ _ (by omega)]; exact n6)
  obtain ⟨b1, b2, b3, b4, b5, b6, b7, b8, b9, b10, b11⟩ := a2
  -- the reference, to its cut
  have r4 : (x_pI μ 0 4 (nI n)).1 0 4 = nI n := by rw [x_pI_1, if_pos ⟨rfl, rfl⟩]
  obtain ⟨g, μ1, c1, c2, c3, c4⟩ := y_copied n1 r4
  have d1 : ∀ a b, a ≠ 2 → ¬ (a = 0 ∧ (b = 4 ∨ b = 2)) → (x_pI μ1 0 2 0).1 a b = μ.1 a b := fun a b q1 q2 => by rw [x_pI_1, if_neg (by omega), c3 _ _ q1, x_pI_1, if_neg (by omega)]
  have d2 : ∀ a b, (x_pI μ1 0 2 0).2 a b = μ.2 a b := fun a b => by rw [x_pI_2, c4]; rfl
  have d4 : (x_pI μ1 0 2 0).1 0 4 = nI n := by rw [x_pI_1, if_neg (by omega), c3 _ _ (by omega)]; exact r4
  have tx : ∃ bt, t_tx σ3 (x_pI μ1 0 2 0) n bt := by
    have hc : ∀ j, ∃ c, j < n → c < 256 ∧ σ.1 15 j = nI c ∧ μ.1 1 j &&& 255 = nI c := fun j => by
      by_cases q : j < n
      · obtain ⟨c, u1, u2, u3⟩ := n5 j q
        exact ⟨c, fun _ => ⟨u1, u2, u3⟩⟩
      · exact ⟨0, fun w => absurd w q⟩
    refine ⟨fun j => Classical.choose (hc j), n1, ?_, d4, fun j hj => ?_⟩
    · rw [b10 _ _ (by omega) (by omega) (by omega), e1 _ _ (by omega)]; exact n2
    · obtain ⟨u1, u2, u3⟩ := Classical.choose_spec (hc j) hj
      refine ⟨u1, ?_, ?_⟩
      · rw [b10 _ _ (by omega) (by omega) (by omega), e1 _ _ (by omega)]; exact u2
      · rw [x_pI_1, if_neg (by omega), c2 j hj, x_pI_1, if_neg (by omega)]; exact u3
  obtain ⟨bt, tx⟩ := tx
  have hk2 : y_keys (x_pI μ1 0 2 0) := fun r hr => by rw [d2]; exact hk r hr
  obtain ⟨σ4, μ3, K, P, m, f1, f2, f3, f4, f5⟩ := t_scans tx hk2
  -- the reference, to its plain text
  have g18 : (x_pI (x_pI (x_pI (x_pI μ3 0 11 0) 0 12 0) 0 13 0) 0 15 0).1 0 18 = nI lv := by
    rw [x_pI_1, if_neg (by omega), x_pI_1, if_neg (by omega), x_pI_1, if_neg (by omega), x_pI_1, if_neg (by omega), f4.1 _ _ (by omega) (by omega) (by omega) (by omega), d1 _ _ (by omega) (by omega)]
    exact h18
  have g19 : (x_pI (x_pI (x_pI (x_pI (x_pI (x_pI μ3 0 11 0) 0 12 0) 0 13 0) 0 15 0) 0 19 (nI sd)) 0 20 0).1 0 19 = nI sd := by
    rw [x_pI_1, if_neg (by omega), x_pI_1, if_pos ⟨rfl, rfl⟩]
  have ge : ∀ a b, ¬ (a = 0 ∧ (b = 11 ∨ b = 12 ∨ b = 13 ∨ b = 15 ∨ b = 19 ∨ b = 20)) → (x_pI (x_pI (x_pI (x_pI (x_pI (x_pI μ3 0 11 0) 0 12 0) 0 13 0) 0 15 0) 0 19 (nI sd)) 0 20 0).1 a b = μ3.1 a b := fun a b q => by
    rw [x_pI_1, if_neg (by omega), x_pI_1, if_neg (by omega), x_pI_1, if_neg (by omega), x_pI_1, if_neg (by omega), x_pI_1, if_neg (by omega), x_pI_1, if_neg (by omega)]
  obtain ⟨μ4, h1, h2⟩ := y_plain_run hsd (x_pI (x_pI (x_pI (x_pI (x_pI (x_pI μ3 0 11 0) 0 12 0) 0 13 0) 0 15 0) 0 19 (nI sd)) 0 20 0)
  obtain ⟨p1, p2, p3, p4, p5, p6, p7, p8⟩ := h2
  have q0 : ∀ b, μ4.1 0 b = (x_pI (x_pI (x_pI (x_pI (x_pI (x_pI μ3 0 11 0) 0 12 0) 0 13 0) 0 15 0) 0 19 (nI sd)) 0 20 0).1 0 b := fun b => p7 0 b (by omega) (by omega) (by omega)
  have q19 : μ4.1 0 19 = nI sd := by rw [q0, g19]
  have i1 : (130 : Int32) * nI sd = nI (130 * sd) := pk_mul 130 _
  have i2 : (420 : Int32) * nI sd = nI (420 * sd) := pk_mul 420 _
  have j19 : (x_pI μ4 0 34 (nI (130 * sd))).1 0 19 = nI sd := by rw [x_pI_1, if_neg (by omega)]; exact q19
  -- all the lines
  have ht : t_fin σ4 (x_pI μ3 0 19 (nI sd)) K P m := f5.ag (fun a b z1 z2 => by rw [x_pI_1, if_neg (by omega)]) (fun b => rfl)
  have yo : ∀ b, ¬ (b = 11 ∨ b = 12 ∨ b = 13 ∨ b = 15 ∨ b = 19 ∨ b = 20 ∨ b = 34 ∨ b = 40) → (x_pI (x_pI μ4 0 34 (nI (130 * sd))) 0 40 (nI (420 * sd))).1 0 b = μ3.1 0 b := fun b q => by
    rw [x_pI_1, if_neg (by omega), x_pI_1, if_neg (by omega), q0, ge _ _ (by omega)]
  have yi : ∀ b, b ≠ 34 → b ≠ 40 → (x_pI (x_pI μ4 0 34 (nI (130 * sd))) 0 40 (nI (420 * sd))).1 0 b = (x_pI (x_pI (x_pI (x_pI (x_pI (x_pI μ3 0 11 0) 0 12 0) 0 13 0) 0 15 0) 0 19 (nI sd)) 0 20 0).1 0 b := fun b z1 z2 => by
    rw [x_pI_1, if_neg (by omega), x_pI_1, if_neg (by omega), q0]
  have yr : ∀ a b, a ≠ 0 → (x_pI (x_pI μ4 0 34 (nI (130 * sd))) 0 40 (nI (420 * sd))).1 a b = μ4.1 a b := fun a b q => by
    rw [x_pI_1, if_neg (by omega), x_pI_1, if_neg (by omega)]
  have y2 : ∀ a b, (x_pI (x_pI μ4 0 34 (nI (130 * sd))) 0 40 (nI (420 * sd))).2 a b = μ3.2 a b := fun a b => by
    rw [x_pI_2, x_pI_2, p8]; rfl
  have yF : y_F sd (x_pI μ3 0 19 (nI sd)) (x_pI (x_pI μ4 0 34 (nI (130 * sd))) 0 40 (nI (420 * sd))) := by
    refine ⟨fun a b q => ?_, fun a b _ => by rw [y2]; rfl⟩
    unfold y_Fs at q
    by_cases z : a = 0
    · subst z
      by_cases z2 : b = 19
      · subst z2; rw [yi _ (by decide) (by decide), g19, x_pI_1, if_pos ⟨rfl, rfl⟩]
      · rw [yo b (by omega), x_pI_1, if_neg (by omega)]
    · rw [yr a b z, p7 a b (by omega) (by omega) (by omega), ge _ _ (by omega), x_pI_1, if_neg (by omega)]
  have s5 : ∀ a b, ¬ (a = 14 ∧ b = 6) → (x_pI σ4 14 6 0).1 a b = σ4.1 a b := fun a b q => by rw [x_pI_1, if_neg q]
  have s4 : ∀ a b, a ≠ 16 → a ≠ 18 → ¬ (a = 14 ∧ (b = 5 ∨ b = 6)) → (x_pI σ4 14 6 0).1 a b = σ3.1 a b := fun a b z1 z2 z3 => by rw [s5 a b (by omega), f3.1 a b z1 z2 (by omega)]
  have s1 : ∀ a b, a = 14 → ¬ (b = 5 ∨ b = 6) → (x_pI σ4 14 6 0).1 a b = (x_pI (x_pI σ 14 10 0) 14 11 (-1)).1 a b := fun a b z1 z3 => by rw [s4 a b (by omega) (by omega) (by omega), b10 a b (by omega) (by omega) (by omega)]
  have hR : p_R σ4 (x_pI μ3 0 19 (nI sd)) P m sd 0 0 (x_pI σ4 14 6 0) (x_pI (x_pI μ4 0 34 (nI (130 * sd))) 0 40 (nI (420 * sd))) := by
    refine ⟨⟨fun a b q => s5 a b (by omega), fun _ _ _ => rfl⟩, yF, hsd, ⟨by omega, f5.1⟩, by rw [x_pI_1, if_pos ⟨rfl, rfl⟩]; rfl, by rw [yi _ (by decide) (by decide), x_pI_1, if_neg (by omega), x_pI_1, if_neg (by omega), x_pI_1, if_neg (by omega), x_pI_1, if_neg (by omega), x_pI_1, if_neg (by omega), x_pI_1, if_pos ⟨rfl, rfl⟩]; rfl, by rw [yi _ (by decide) (by decide), x_pI_1, if_neg (by omega), x_pI_1, if_neg (by omega), x_pI_1, if_neg (by omega), x_pI_1, if_pos ⟨rfl, rfl⟩], Or.inl ⟨by rw [s1 _ _ rfl (by omega), x_pI_1, if_neg (by omega), x_pI_1, if_pos ⟨rfl, rfl⟩], by rw [yi _ (by decide) (by decide), x_pI_1, if_neg (by omega), x_pI_1, if_neg (by omega), x_pI_1, if_pos ⟨rfl, rfl⟩], by rw [s1 _ _ rfl (by omega), x_pI_1, if_pos ⟨rfl, rfl⟩]⟩, by rw [yi _ (by decide) (by decide), g19]⟩
  obtain ⟨w, w1, w2⟩ := hw
  have hL : p_TL sd 7 7 (420 * sd) 0 0 7 n_L0 (x_pI σ4 14 6 0) (x_pI (x_pI μ4 0 34 (nI (130 * sd))) 0 40 (nI (420 * sd))) := by
    refine p_TL0 (by rw [s4 _ _ (by omega) (by omega) (by omega)]; exact b6) (by rw [s4 _ _ (by omega) (by omega) (by omega)]; exact b7) (fun j hj => by rw [s4 _ _ (by omega) (by omega) (by omega)]; exact b8 j hj) (fun k hk => by rw [s4 _ _ (by omega) (by omega) (by omega), s4 _ _ (by omega) (by omega) (by omega), s4 _ _ (by omega) (by omega) (by omega)]; exact b9 k hk) (by rw [x_pI_1, if_pos ⟨rfl, rfl⟩]) ?_ ?_ ⟨w, w1, ?_⟩ (fun k hk => by rw [yr _ _ (by omega), yr _ _ (by omega)]; exact p6 k hk)
    · rw [yi _ (by decide) (by decide), x_pI_1, if_neg (by omega), x_pI_1, if_neg (by omega), x_pI_1, if_neg (by omega), x_pI_1, if_neg (by omega), x_pI_1, if_pos ⟨rfl, rfl⟩]
    · rw [x_pI_1, if_neg (by omega), x_pI_1, if_pos ⟨rfl, rfl⟩]
    · rw [yo _ (by omega), f4.1 _ _ (by omega) (by omega) (by omega) (by omega), d1 _ _ (by omega) (by omega)]; exact w2
  have hN : p_TN sd 0 (x_pI σ4 14 6 0) (x_pI (x_pI μ4 0 34 (nI (130 * sd))) 0 40 (nI (420 * sd))) := by
    have z21 : ∀ b, (x_pI σ4 14 6 0).1 21 b = σ3.1 21 b := fun b => s4 _ _ (by omega) (by omega) (by omega)
    refine ⟨by omega, by rw [z21, b5]; rfl, ?_, by rw [yr _ _ (by omega), p2]; rfl, fun a ha => by omega, by rw [yr _ _ (by omega), p3, z21, b2], by rw [yr _ _ (by omega), p4, z21, b3], by rw [yr _ _ (by omega), p5, z21, b4], fun k hk => by rw [yr _ _ (by omega), p1 k hk, z21, b1 k hk], fun _ => ⟨⟨20, by omega, by rw [z21, b2]; rfl⟩, ⟨30, by omega, by rw [z21, b3]; rfl⟩, fun k hk => ⟨0, by omega, by rw [z21, b1 k hk]; rfl⟩⟩⟩
    rw [yi _ (by decide) (by decide), x_pI_1, if_pos ⟨rfl, rfl⟩]; rfl
  obtain ⟨τ, ν, k1, k2, k3⟩ := p_lines ht 401 x_fuel x_fuel 0 0 7 7 (420 * sd) 0 0 n_L0 _ _ (by omega) (by omega) (by rw [x_fuel]; omega) (by rw [x_fuel]; omega) (by omega) hR hL hN
  have k1' : F_X4_readTape_30 x_fuel 1 0 (x_pI σ4 14 6 0) = F_X4_readTape_61 τ := k1
  have cF : c_F σ4 τ ∧ y_F sd (x_pI μ3 0 19 (nI sd)) ν := by
    rcases k3 with ⟨_, _, _, _, _, _, _, _, q, _⟩ | ⟨_, _, q1, q2⟩
    · exact ⟨q.1, q.2.1⟩
    · exact ⟨q1.1, q2.fr⟩
  have yν : ∀ a b, ¬ y_Fs sd a b → ¬ (3 ≤ a ∧ a ≤ 5) → ¬ (a = 0 ∧ (b = 10 ∨ b = 19)) → ν.1 a b = (x_pI μ1 0 2 0).1 a b := fun a b z1 z2 z3 => by
    rw [cF.2.1 a b z1, x_pI_1, if_neg (by omega), f4.1 a b (by omega) (by omega) (by omega) (by omega)]
  refine ⟨τ, ν, ?_, ?_, fun a b q => ?_, ⟨fun a b q => ?_, fun a b z1 z2 => ?_⟩, ?_, ?_, ?_⟩
  · rw [F_X4_readTape, x_pt_s, x_pt_s, a1, x_b_s, f1, x_b_s, x_pt_s, k1']
  · have rd : F_X9_read μ = F_X9_read_10 x_fuel 0 (x_pI μ 0 4 (nI n)) := by rw [F_X9_read, n3, x_pt_s]
    rw [rd, c1, F_X9_read_10, if_pos (show μ1.1 0 4 ≤ nI n by rw [c3 _ _ (by omega), r4]; exact Int32.le_refl _), x_pt_s, f2, x_b_s, x_pt_s, x_pt_s, x_pt_s, x_pt_s, g18, es, x_pt_s, x_pt_s, g19, h1, x_b_s, q19, i1, x_pt_s, j19, i2, x_pt_s, k2]
  · rw [cF.1.1 a b (by omega), f3.1 a b (by omega) (by omega) (by omega), b10 a b (by omega) (by omega) (by omega), e1 a b (by omega)]
  · rw [yν a b (fun z => q (Or.inl z)) (by omega) (by omega), d1 a b (by omega) (by omega)]
  · rw [cF.2.2 a b z2, x_pI_2, f4.2 a b z1, d2]
  · rw [yν 0 2 (by unfold y_Fs; omega) (by omega) (by omega), x_pI_1, if_pos ⟨rfl, rfl⟩]
  · rcases k3 with ⟨_, _, _, _, _, _, _, _, q, _⟩ | ⟨_, _, q1, q2⟩
    · exact q.2.2.2.2.2.2.2.2
    · exact q2.e19
  · rcases k3 with ⟨h, S, N, C, bn, L, A, u1, u2, u3, u4, u5⟩ | ⟨k, pl, u1, u2⟩
    · exact Or.inl ⟨h, S, N, C, bn, L, A, P, u1, u2.k13, u2.2.2.2.2.2.2.2.1, u3, u4, u5⟩
    · obtain ⟨w, c, v1, v2, _⟩ := u2.hw
      exact Or.inr ⟨k, pl, u2.hk, u1.2.1, u1.2.2, u2.e13, u2.e14, w, v1, v2⟩
