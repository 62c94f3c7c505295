/-! WHAT IS DONE: noted by both -/
theorem un_St : ∀ i, i < 50 → x_kd TX (41 + 2 * i) = 5 := by decide +kernel
theorem un_rf : ∀ i, i < 50 → x_rf TX 40 i = 41 + 2 * i := by decide +kernel
theorem gS_hp_o {s r : Nat} (hs : x_St s) (hr : x_St r) (hne : s ≠ r) (σ : x_Hp) (u : x_V) (c : x_Sc) : x_gS (x_hp σ s u c) r = x_gS σ r := by
  obtain ⟨n1, n2⟩ := hs.apart hr hne
  have s1 := hs.facts.1
  have r1 := hr.facts.1
  exact gS_ag r (fun b => x_hp_oth _ _ _ _ _ (by omega) (by omega) (by omega) (by omega)) (fun b => x_hp_oth _ _ _ _ _ (by omega) (by omega) (by omega) (by omega))
theorem gS_pI (σ : x_Hp) {a : Nat} (b : Nat) (x : Int32) {s : Nat} (h1 : a ≠ s) (h2 : a ≠ s + 1) : x_gS (x_pI σ a b x) s = x_gS σ s := gS_ag s (fun j => by rw [x_pI_1, if_neg (by omega)]) (fun j => by rw [x_pI_1, if_neg (by omega)])
section N1
variable {T : x_TT} {lv N t : Nat} {v : x_V}
theorem k_note {σ : x_Hp} (h35 : x_gS σ 35 = v) {len b ch : Nat} (hl : len ≤ 50) (hb : b < 50) (h1 : σ.1 39 1 = nI len) (h2 : σ.1 39 2 = nI b) (h3 : σ.1 39 3 = nI ch) : ∃ τ, F_X7_note 35 σ = some ((), τ) ∧ τ.1 39 1 = nI (if len = 50 then 50 else len + 1) ∧ τ.1 39 2 = nI ((b + 1) % 50) ∧ τ.1 39 3 = nI (ch + 1) ∧ e62 (x_gS τ (41 + 2 * b)) v ∧ (∀ i, i < 50 → i ≠ b → x_gS τ (41 + 2 * i) = x_gS σ (41 + 2 * i)) ∧ ∀ a j, ¬ (a = 13 ∨ (a = 8 ∧ j = 7) ∨ a = 39 ∨ (41 ≤ a ∧ a ≤ 140)) → τ.1 a j = σ.1 a j := by
  have hs : x_St (41 + 2 * b) := un_St b hb
  have ef := k_from hs x_St35 (by omega) (σ := x_pI σ 39 3 (nI ch + 1)) (u := v) (fun k _ => by rw [← h35, gS_pI _ _ _ (by decide) (by decide)])
  have r2 : (x_pI σ 39 3 (nI ch + 1)).1 39 2 = nI b := by rw [x_pI_1, if_neg (by omega)]; exact h2
  rw [F_X7_note, x_pt_s, h3, r2, if_neg (nI_pos (by omega)), if_neg (show ¬ (50 : Int32) ≤ nI b from nI_ge (b := 50) hb (by decide)), x_gd_t (x_inb_nI hb (by decide)), x_gd_t (x_inb_nI hb (by decide)), x_ix_nI (by omega), un_rf b hb, ef, x_b_s]
  have g : ∀ a j, a ≠ 13 → a ≠ 8 → a ≠ 41 + 2 * b → a ≠ 41 + 2 * b + 1 → ∀ c, (x_hp (x_pI σ 39 3 (nI ch + 1)) (41 + 2 * b) v c).1 a j = (x_pI σ 39 3 (nI ch + 1)).1 a j := fun a j q1 q2 q3 q4 c => x_hp_oth _ _ _ _ _ q3 q4 q1 q2
  have m50 : F_X7_note_54 (x_hp (x_pI σ 39 3 (nI ch + 1)) (41 + 2 * b) v (x_sc (x_pI σ 39 3 (nI ch + 1)))) = some ((), x_pI (x_pI (x_hp (x_pI σ 39 3 (nI ch + 1)) (41 + 2 * b) v (x_sc (x_pI σ 39 3 (nI ch + 1)))) 39 2 (nI ((b + 1) % 50))) 39 1 (nI (if len = 50 then 50 else len + 1))) := by
    have e1 : ∀ x : Int32, (x_pI (x_hp (x_pI σ 39 3 (nI ch + 1)) (41 + 2 * b) v (x_sc (x_pI σ 39 3 (nI ch + 1)))) 39 2 x).1 39 1 = nI len := fun x => by
      rw [x_pI_1, if_neg (by omega), g 39 1 (by decide) (by decide) (by omega) (by omega), x_pI_1, if_neg (by omega)]; exact h1
    have e2 : (if nI len + 1 < (50 : Int32) then nI len + 1 else 50) = nI (if len = 50 then 50 else len + 1) := by
      rw [nI_1]
      by_cases q : len + 1 < 50
      · rw [if_pos (show nI (len + 1) < (50 : Int32) from nI_lt (b := 50) q (by decide)), if_neg (by omega)]
      · rw [if_neg (show ¬ nI (len + 1) < (50 : Int32) from nI_nlt (b := 50) (by omega) (by omega))]
        by_cases q2 : len = 50
        · rw [if_pos q2]; rfl
        · rw [if_neg q2, show len + 1 = 50 by omega]; rfl
    rw [F_X7_note_54, g 39 2 (by decide) (by decide) (by omega) (by omega), r2, nI_1]
    by_cases q : b + 1 < 50
    · rw [if_neg (show ¬ (50 : Int32) ≤ nI (b + 1) from nI_ge (b := 50) q (by decide)), F_X7_note_76, x_pt_s, x_pt_s, e1, e2, Nat.mod_eq_of_lt q]
    · rw [if_pos (show (50 : Int32) ≤ nI (b + 1) from nI_le (a := 50) (by omega) (by omega)), F_X7_note_76, x_pt_s, x_pt_s, e1, e2, show b + 1 = 50 by omega]; rfl
  rw [m50]
  refine ⟨_, rfl, by rw [x_pI_1, if_pos ⟨rfl, rfl⟩], by rw [x_pI_1, if_neg (by omega), x_pI_1, if_pos ⟨rfl, rfl⟩], ?_, ?_, fun i hi hib => ?_, fun a j h => ?_⟩
  · rw [x_pI_1, if_neg (by omega), x_pI_1, if_neg (by omega), g 39 3 (by decide) (by decide) (by omega) (by omega), x_pI_1, if_pos ⟨rfl, rfl⟩, nI_1]
  · rw [gS_pI _ _ _ (by omega) (by omega), gS_pI _ _ _ (by omega) (by omega)]
    exact gS_hp hs _ _ _
  · have hi' : x_St (41 + 2 * i) := un_St i hi
    rw [gS_pI _ _ _ (by omega) (by omega), gS_pI _ _ _ (by omega) (by omega), gS_hp_o hs hi' (by omega), gS_pI _ _ _ (by omega) (by omega)]
  · rw [x_pI_1, if_neg (by omega), x_pI_1, if_neg (by omega)]
    simp only [x_hp]
    rw [if_neg (by omega), if_neg (by omega), if_neg (by omega), if_neg (by omega), x_pI_1, if_neg (by omega)]
theorem y_keepsRow (μ : x_Hp) : F_X9_keepsRow μ = some ((), y_fl μ 31 0 60 (μ.1 32) 0) := by
  obtain ⟨n, e⟩ := y_fill0 (F := fun n i μ => F_X9_keepsRow_2 n i μ) (r := 31) (b := 0) (L := 60) (by decide) (f := μ.1 32) (P := fun _ ν => ∀ k, ν.1 32 k = μ.1 32 k) (fun i σ hi hp k => by rw [x_pI_1, if_neg (by omega)]; exact hp k) (fun n i σ hi hp => by
    have hii : x_inb (nI i) 60 = true := x_inb_nI hi (by decide)
    rw [F_X9_keepsRow_2, if_neg (show ¬ (60 : Int32) ≤ nI i from nI_ge (b := 60) hi (by decide)), x_gd_t hii, x_gd_t hii, x_pt_s, x_ix_nI (by omega), hp i, nI_1, Nat.zero_add]) (σ := μ) (fun k => rfl)
  rw [F_X9_keepsRow, e, F_X9_keepsRow_2, if_pos (show (60 : Int32) ≤ nI 60 by decide)]
theorem y_keeps {κ : x_Hp} {len : Nat} (hl : len ≤ 50) (h54 : κ.1 0 54 = nI len) : ∃ ν d n, F_X9_keeps κ = some ((), ν) ∧ n + d = len ∧ n < 50 ∧ (d = if len = 50 then 1 else 0) ∧ ν.1 0 54 = nI (n + 1) ∧ (∀ k, k < 60 → ν.1 31 k = κ.1 32 k) ∧ (∀ j k, j < n → k < 60 → ν.1 34 (60 * j + k) = κ.1 34 (60 * (j + d) + k)) ∧ (∀ k, k < 60 → ν.1 34 (60 * n + k) = κ.1 31 k) ∧ ∀ a b, ¬ (a = 31 ∨ a = 34 ∨ (a = 0 ∧ b = 54)) → ν.1 a b = κ.1 a b := by
  -- the row written down
  have put : ∀ (ρ : x_Hp) (n : Nat), n < 50 → ρ.1 0 54 = nI n → ∃ ν, F_X9_keeps_49 ρ = some ((), ν) ∧ ν.1 0 54 = nI (n + 1) ∧ (∀ k, k < 60 → ν.1 31 k = ρ.1 32 k) ∧ (∀ i, i < 60 * n → ν.1 34 i = ρ.1 34 i) ∧ (∀ k, k < 60 → ν.1 34 (60 * n + k) = ρ.1 31 k) ∧ ∀ a b, ¬ (a = 31 ∨ a = 34 ∨ (a = 0 ∧ b = 54)) → ν.1 a b = ρ.1 a b := by
    intro ρ n hn h
    obtain ⟨q, e⟩ := y_fill0 (F := fun n i μ => F_X9_keeps_51 n i μ) (r := 34) (b := 60 * n) (L := 60) (by decide) (f := ρ.1 31) (P := fun _ ν => (∀ k, ν.1 31 k = ρ.1 31 k) ∧ ν.1 0 54 = nI n) (fun i σ hi hp => ⟨fun k => by rw [x_pI_1, if_neg (by omega)]; exact hp.1 k, by rw [x_pI_1, if_neg (by omega)]; exact hp.2⟩) (fun q i σ hi hp => by
      have ix : (60 : Int32) * nI n + nI i = nI (60 * n + i) := by rw [show (60 : Int32) * nI n = nI (60 * n) from pk_mul 60 n, nI_add]
      rw [F_X9_keeps_51, if_neg (show ¬ (60 : Int32) ≤ nI i from nI_ge (b := 60) hi (by decide)), x_gd_t (x_inb_nI hi (by decide)), hp.2, ix, x_gd_t (x_inb_nI (by omega) (by decide)), x_pt_s, x_ix_nI (by omega), x_ix_nI (by omega), hp.1 i, nI_1]) (σ := ρ) ⟨fun k => rfl, h⟩
    have r54 : (y_fl ρ 34 (60 * n) 60 (ρ.1 31) 0).1 0 54 = nI n := by rw [y_fl_o _ _ _ _ _ (by omega)]; exact h
    refine ⟨y_fl (x_pI (y_fl ρ 34 (60 * n) 60 (ρ.1 31) 0) 0 54 (nI (n + 1))) 31 0 60 ((x_pI (y_fl ρ 34 (60 * n) 60 (ρ.1 31) 0) 0 54 (nI (n + 1))).1 32) 0, ?_, ?_, fun k hk => ?_, fun i hi => ?_, fun k hk => ?_, fun a b hab => ?_⟩
    · rw [F_X9_keeps_49, e, F_X9_keeps_51, if_pos (show (60 : Int32) ≤ nI 60 by decide), r54, x_pt_s, nI_1, y_keepsRow, x_b_s]
    · rw [y_fl_o _ _ _ _ _ (by omega), x_pI_1, if_pos ⟨rfl, rfl⟩]
    · have := y_fl_in (x_pI (y_fl ρ 34 (60 * n) 60 (ρ.1 31) 0) 0 54 (nI (n + 1))) 31 0 60 ((x_pI (y_fl ρ 34 (60 * n) 60 (ρ.1 31) 0) 0 54 (nI (n + 1))).1 32) hk
      rw [Nat.zero_add] at this
      rw [this, x_pI_1, if_neg (by omega), y_fl_o _ _ _ _ _ (by omega)]
    · rw [y_fl_o _ _ _ _ _ (by omega), x_pI_1, if_neg (by omega), y_fl_o _ _ _ _ _ (by omega)]
    · rw [y_fl_o _ _ _ _ _ (by omega), x_pI_1, if_neg (by omega), y_fl_in _ _ _ _ _ hk]
    · rw [y_fl_o _ _ _ _ _ (by omega), x_pI_1, if_neg (by omega), y_fl_o _ _ _ _ _ (by omega)]
  rw [F_X9_keeps, h54]
  by_cases q : len = 50
  · subst q
    rw [if_pos (show nI 50 = 50 from rfl)]
    obtain ⟨z, e⟩ := y_fill0 (F := fun n i μ => F_X9_keeps_11 n i μ) (r := 34) (b := 0) (L := 2940) (by decide) (f := fun k => κ.1 34 (k + 60)) (P := fun i ν => ∀ k, i ≤ k + 60 → ν.1 34 (k + 60) = κ.1 34 (k + 60)) (fun i σ hi hp k hk => by rw [x_pI_1, if_neg (by omega)]; exact hp k (by omega)) (fun n i σ hi hp => by
      have ix : nI i + (60 : Int32) = nI (i + 60) := nI_add i 60
      rw [F_X9_keeps_11, if_neg (show ¬ (2940 : Int32) ≤ nI i from nI_ge (b := 2940) hi (by decide)), ix, x_gd_t (x_inb_nI (by omega) (by decide)), x_gd_t (x_inb_nI (by omega) (by decide)), x_pt_s, x_ix_nI (by omega), x_ix_nI (by omega), hp i (by omega), nI_1, Nat.zero_add]) (σ := κ) (fun k _ => rfl)
    have r54 : (y_fl κ 34 0 2940 (fun k => κ.1 34 (k + 60)) 0).1 0 54 = nI 50 := by rw [y_fl_o _ _ _ _ _ (by omega)]; exact h54
    have e49 : nI 50 - (1 : Int32) = nI 49 := by decide
    obtain ⟨ν, a1, a2, a3, a4, a5, a6⟩ := put (x_pI (y_fl κ 34 0 2940 (fun k => κ.1 34 (k + 60)) 0) 0 54 (nI 49)) 49 (by decide) (by rw [x_pI_1, if_pos ⟨rfl, rfl⟩])
    refine ⟨ν, 1, 49, ?_, rfl, by decide, rfl, a2, fun k hk => ?_, fun j k hj hk => ?_, fun k hk => ?_, fun a b hab => ?_⟩
    · rw [e, F_X9_keeps_11, if_pos (show (2940 : Int32) ≤ nI 2940 by decide), x_pt_s, r54, e49, a1]
    · rw [a3 k hk, x_pI_1, if_neg (by omega), y_fl_o _ _ _ _ _ (by omega)]
    · have := y_fl_in κ 34 0 2940 (fun k => κ.1 34 (k + 60)) (k := 60 * j + k) (by omega)
      rw [Nat.zero_add] at this
      rw [a4 _ (by omega), x_pI_1, if_neg (by omega), this, show 60 * (j + 1) + k = 60 * j + k + 60 by omega]
    · rw [a5 k hk, x_pI_1, if_neg (by omega), y_fl_o _ _ _ _ _ (by omega)]
    · rw [a6 a b hab, x_pI_1, if_neg (by omega), y_fl_o _ _ _ _ _ (by omega)]
  · rw [if_neg (show ¬ nI len = 50 from fun z => q ((nI_eq (b := 50) (by omega) (by decide)).mp z))]
    obtain ⟨ν, a1, a2, a3, a4, a5, a6⟩ := put κ len (by omega) h54
    exact ⟨ν, 0, len, a1, rfl, by omega, by rw [if_neg q], a2, a3, fun j k hj hk => by rw [a4 _ (by omega)]; rfl, a5, a6⟩
/-- a thing done: noted, and then it stands as u -/
theorem d_push {K : Nat} {σ μ : x_Hp} {ch : Nat} {u : x_V} (hV : r_V σ μ T lv N (241 * K) v) (hU : r_U σ μ T N (241 * K) ch) (hc : ch ≤ K) (hS : r_S σ μ T N (241 * K)) (hT : r_T σ μ) (hP : r_P σ μ) (hO : r_O σ T N v ch) (hJ : m_J T N (241 * (K + 1)) u) : ∃ τ, F_X7_note 35 σ = some ((), τ) ∧ x_gS τ 35 = v ∧ x_Tx τ T ∧ ∀ (c : x_Sc) (μ1 : x_Hp) (d : y_Sc), y_sm μ μ1 → ∃ ν, F_X9_keeps (z_hp μ1 u d) = some ((), ν) ∧ (∀ k, k < 60 → ν.1 31 k = y_rv u k) ∧ r_rel (K + 1) (x_hp τ 35 u c) ν := by
  obtain ⟨len, b, u1, u2, u3, u4, u5, u6, u7⟩ := hU
  obtain ⟨τ, a1, a2, a3, a4, a5, a6, a7⟩ := k_note hV.2.2.2.1 u1 u2 u3 u4 u5
  have g35 : x_gS τ 35 = v := by
    rw [← hV.2.2.2.1]; exact gS_ag 35 (fun b => a7 _ _ (by omega)) (fun b => a7 _ _ (by omega))
  have hTx : x_Tx τ T := hV.1.ag (fun a b h => a7 a b (by omega))
  refine ⟨τ, a1, g35, hTx, fun c μ1 d sy => ?_⟩
  have k54 : (z_hp μ1 u d).1 0 54 = nI len := by rw [z_0 _ _ _ (by decide), sy 0 54 (by unfold y_Sb; omega)]; exact u6
  obtain ⟨ν, dd, n, b1, b2, b3, b4, b5, b6, b7, b8, b9⟩ := y_keeps u1 k54
  have r31 : ∀ k, k < 60 → ν.1 31 k = y_rv u k := fun k hk => by rw [b6 k hk, z_hp, y_row _ _ _ hk]
  have rz : ∀ a b, ¬ (a = 31 ∨ a = 34 ∨ (a = 0 ∧ b = 54)) → ¬ y_Sb a b → ν.1 a b = μ.1 a b := fun a b h1 h2 => by
    rw [b9 a b h1, y_sm.hp μ1 u d a b h2, sy a b h2]
  have rx : ∀ a b, ¬ (a = 13 ∨ (a = 8 ∧ b = 7) ∨ (35 ≤ a ∧ a ≤ 140)) → (x_hp τ 35 u c).1 a b = σ.1 a b := fun a b h => by
    simp only [x_hp]
    rw [if_neg (by omega), if_neg (by omega), if_neg (by omega), if_neg (by omega)]
    exact a7 a b (by omega)
  have z39 : ∀ b, (x_hp τ 35 u c).1 39 b = τ.1 39 b := fun b => x_hp_oth _ _ _ _ _ (by decide) (by decide) (by decide) (by decide)
  refine ⟨ν, b1, r31, T, lv, N, x_gS (x_hp τ 35 u c) 35, ch + 1, ?_, ?_, by omega, ?_, ?_, ?_, ?_⟩
  · refine r_V.mk (hTx.ag (fun a b h => x_hp_oth _ _ _ _ _ (by omega) (by omega) (by omega) (by omega))) (hV.2.1.agt ⟨rz _ _ (by omega) (by unfold y_Sb; omega), fun a b h1 h2 => rz a b (by omega) (by unfold y_Sb; omega)⟩) hV.2.2.1 (gS_hp x_St35 τ u c) hJ r31
  · have hl1 : (if len = 50 then 50 else len + 1) = n + 1 := by split <;> simp_all <;> omega
    refine ⟨n + 1, (b + 1) % 50, by omega, Nat.mod_lt _ (by decide), by rw [z39, a2, hl1], by rw [z39, a3], by rw [z39, a4], b5, fun j hj => ?_⟩
    have hd : dd = 1 ∧ len = 50 ∨ dd = 0 ∧ len < 50 := by
      by_cases q : len = 50
      · exact Or.inl ⟨by rw [b4, if_pos q], q⟩
      · exact Or.inr ⟨by rw [b4, if_neg q], by omega⟩
    have hrow : ∀ i, i < 50 → x_gS (x_hp τ 35 u c) (41 + 2 * i) = x_gS τ (41 + 2 * i) := fun i hi => gS_hp_o x_St35 (un_St i hi) (by omega) _ _ _
    have hlt := Nat.mod_lt ((b + 1) % 50 + 50 - (n + 1) + j) (show 0 < 50 by decide)
    rw [r_ix, hrow _ hlt]
    by_cases q : j < n
    · obtain ⟨p1, p2⟩ := u7 (j + dd) (by omega)
      have ei : ((b + 1) % 50 + 50 - (n + 1) + j) % 50 = (b + 50 - len + (j + dd)) % 50 := by omega
      have en : ((b + 1) % 50 + 50 - (n + 1) + j) % 50 ≠ b := by omega
      rw [a6 _ hlt en, ei]
      rw [r_ix] at p1 p2
      refine ⟨p1.mono (by omega), fun k hk => ?_⟩
      rw [b7 j k q hk, z_oth _ _ _ _ (by decide) (by decide) (by decide) (by decide) (Or.inl (by decide)), sy 34 _ (by unfold y_Sb; omega)]
      exact p2 k hk
    · have ej : j = n := by omega
      have ei : ((b + 1) % 50 + 50 - (n + 1) + j) % 50 = b := by omega
      rw [ei]
      refine ⟨(hV.2.2.2.2.1.mono (by omega)).c a5, fun k hk => ?_⟩
      rw [ej, b8 k hk, z_31, sy 31 _ (by unfold y_Sb; omega), hV.2.2.2.2.2 k hk, y_rv_c a5 hk]
  · exact (hS.ag (fun a b h => rx a b (by omega)) (fun a b h => rz a b (by omega) (by unfold y_Sb; omega))).mono (by omega)
  · exact hT.ag (fun a b h => rx a b (by omega)) (fun a b h => rz a b (by omega) (by unfold y_Sb; omega))
  · exact hP.ag (fun a b h => rx a b (by omega)) (fun a b h => rz a b (by omega) (by unfold y_Sb; omega))
  · exact hO.nx (fun b => rx 143 b (by omega))
end N1
