/-! READING: an aunt behind her name, both -/
section AUNT3
variable {σ0 μ0 : x_Hp} {K P : Nat → Nat} {m sd h : Nat}
theorem p_GO.mono {h' : Nat} {cl : Option (Int32 × x_Hp)} {rf : Option (Unit × x_Hp)} (g : p_GO σ0 μ0 P m sd h' cl rf) (hh : h ≤ h') : p_GO σ0 μ0 P m sd h cl rf := by
  obtain ⟨τ, ν, a, b⟩ := g
  refine ⟨τ, ν, a, ?_⟩
  rcases b with ⟨b, h2, S, N, C, bn, L, A, c1, c2, c3⟩ | b
  · exact Or.inl ⟨b, h2, S, N, C, bn, L, A, c1, by omega, c3⟩
  · exact Or.inr b
theorem p_TN.ar {A : Nat} {σ μ τ ν : x_Hp} (t : p_TN sd A σ μ) (h1 : c_hd σ τ) (h2 : y_ar sd A μ ν) (h5 : τ.1 14 10 = 0 → σ.1 14 10 = 0) : p_TN sd A τ ν := by
  obtain ⟨a1, a2, a3, a4, a5, a6, a7, a8, a9, a10⟩ := t
  have c : ∀ a b, 21 ≤ a → a ≤ 27 → τ.1 a b = σ.1 a b := fun a b q1 q2 => h1.1 a b (by omega) (by omega)
  refine ⟨a1, by rw [c _ _ (by omega) (by omega)]; exact a2, by rw [h2.1 _ _ (by omega) (by omega)]; exact a3, by rw [h2.1 _ _ (by omega) (by omega)]; exact a4, fun a ha => ?_, by rw [h2.1 _ _ (by omega) (by omega), c _ _ (by omega) (by omega)]; exact a6, by rw [h2.1 _ _ (by omega) (by omega), c _ _ (by omega) (by omega)]; exact a7, by rw [h2.1 _ _ (by omega) (by omega), c _ _ (by omega) (by omega)]; exact a8, fun k hk => by rw [h2.1 _ _ (by omega) (by omega), c _ _ (by omega) (by omega)]; exact a9 k hk, fun e => ?_⟩
  · rw [h1.2, h2.2, h2.1 11 _ (by omega) (by omega), h2.1 12 _ (by omega) (by omega), h2.1 13 _ (by omega) (by omega), h2.1 14 _ (by omega) (by omega), h2.1 15 _ (by omega) (by omega), c 23 _ (by omega) (by omega), c 24 _ (by omega) (by omega), c 25 _ (by omega) (by omega), c 26 _ (by omega) (by omega), c 27 _ (by omega) (by omega)]
    exact a5 a ha
  · obtain ⟨x1, x2, x3⟩ := a10 (h5 e)
    exact ⟨by rw [c _ _ (by omega) (by omega)]; exact x1, by rw [c _ _ (by omega) (by omega)]; exact x2, fun k hk => by rw [c _ _ (by omega) (by omega)]; exact x3 k hk⟩
def c_CR (y1 : Int64) (σ : x_Hp) : Option (Int32 × x_Hp) := x_b (F_X4_takeNumbers 0 3 9 σ) fun v8 σ8 => if v8 = 0 then some ((0 : Int32), σ8) else x_b (F_X4_takeNumbers 3 4 99 σ8) fun v9 σ9 => if v9 = 0 then some ((0 : Int32), σ9) else x_b (F_X4_kind σ9) fun v10 σ10 => if v10 = (12 : Int32) then F_X4_tellAunt_104 y1 (1 : Int32) σ10 else F_X4_tellAunt_104 y1 (0 : Int32) σ10
theorem p_tail (ht : t_fin σ0 μ0 K P m) {A S N C bn x2 : Nat} {L : x_LW} {σ μ : x_Hp} {y1 : Int64} (hA : A < 6) (hx2 : x2 < 403) (hy : μ.2 6 x2 = y1) (hb4 : 4 * bn ≤ h) (g : p_R σ0 μ0 P m sd h h σ μ) (t : p_TL sd S N C bn h 7 L σ μ) (tn : p_TN sd A σ μ) : p_GO σ0 μ0 P m sd h (c_CR y1 σ) (F_X9_tellAunt_77 (nI (6 * sd + A)) (nI x2) μ) := by
  have h4 := g.2.2.2.1
  have hsd := g.2.2.1
  have hbd := t.bd h4.1 hb4
  have hi : x_inb (nI (6 * sd + A)) 12 = true := x_inb_nI (by omega) (by decide)
  have ix : x_ix (nI (6 * sd + A)) = 6 * sd + A := x_ix_nI (by omega)
  obtain ⟨τ, ν, s⟩ := p_four ht hA (nI x2) hbd g
  rcases s with ⟨s1, τ', s2, s3, s4, s5, s6, s7, s8⟩ | ⟨ρ, s1, ⟨k, pl, s2, s3⟩, s4⟩
  · have hK : K (h + 4) < 62 := by have := (s4.tk ht s4.2.2.2.1.2).1; unfold n_kd at this; omega
    have h4' := s4.2.2.2.1
    have i22 : F_X9_is 22 ν = some (if K (h + 4) = 12 then 1 else 0, ν) := s4.is ht (kc := 12) (by unfold n_kd; omega)
    have tl : ∀ {h' : Nat} {ρ κ : x_Hp}, h ≤ h' → c_hd σ ρ → y_ar sd A μ κ → p_TL sd S N C bn h' 7 L ρ κ := fun hh c y => t.ag hh (fun a b q1 q2 => c.1 a b (by omega) (by omega)) (fun a b q => y.1 a b (by omega) (by omega))
    have y15 : ∀ v, y_ar sd A μ (x_pI ν 15 (6 * sd + A) v) := fun v => ⟨fun a b z1 z2 => by rw [x_pI_1, if_neg (by omega), s6.1 a b z1 z2], fun a b => by rw [x_pI_2, s6.2]⟩
    have v1 : vp_nar .boolean (1 : Int32) = 1 := rfl
    have v0 : vp_nar .boolean (0 : Int32) = 0 := rfl
    rw [c_CR, s1, x_b_s, if_neg (show ¬ (1 : Int32) = 0 by decide), s2, x_b_s, if_neg (show ¬ (1 : Int32) = 0 by decide), s4.kind ht, x_b_s, s3, i22, x_b_s]
    by_cases z : K (h + 4) = 12
    · have gk : p_R σ0 μ0 P m sd (h + 4) (h + 4) τ' (x_pI ν 15 (6 * sd + A) 1) := s4.pIy (by unfold y_Fs; omega) (by omega) _
      have e15 : ¬ (x_pI ν 15 (6 * sd + A) 1).1 15 (6 * sd + A) = 0 := by rw [x_pI_1, if_pos ⟨rfl, rfl⟩]; decide
      rw [if_pos (show nI (K (h + 4)) = (12 : Int32) by rw [z]; rfl), if_pos z, if_neg (show ¬ (1 : Int32) = 0 by decide), F_X4_tellAunt_104, if_neg (show ¬ (1 : Int32) = 0 by decide), F_X9_tellAunt_155, x_gd_t hi, x_pt_s, ix, v1, x_gd_t hi, if_neg e15]
      rcases p_step ht gk (by omega) (by omega) ((y15 1).bd hbd) with ⟨a1, a2, a3, a4⟩ | ⟨τ2, ν2, a2, a3, ⟨k, pl, a4, a5⟩, a6⟩
      · have yy : y_ar sd A μ (x_pI (x_pI ν 15 (6 * sd + A) 1) 0 11 (nI (h + 4 + 1))) := ⟨fun a b z1 z2 => by rw [x_pI_1, if_neg (by omega), (y15 1).1 a b z1 z2], fun a b => by rw [x_pI_2, (y15 1).2]⟩
        have cc : c_hd σ (x_pI τ' 14 6 (nI (h + 4 + 1))) := s5.tr (c_hd.pI _ (by omega) _)
        rw [a2, x_b_s, if_neg (show ¬ (1 : Int32) = 0 by decide), a3, x_b_s]
        refine (p_118 (s := 1) ht hA (by decide) hx2 ?_ (by omega) a4 (tl (by omega) cc yy) (tn.ar cc yy (fun e => s8 (by rw [x_pI_1, if_neg (by omega)] at e; exact e))) (fun j hj => ?_) ?_).mono (by omega)
        · rw [yy.2]; exact hy
        · rw [x_pI_1, if_neg (by omega), x_pI_1, if_neg (by omega), x_pI_1, if_neg (by omega)]; exact s7 j hj
        · rw [x_pI_1, if_neg (by omega), x_pI_1, if_pos ⟨rfl, rfl⟩]; rfl
      · obtain ⟨ρ, r1⟩ : ∃ ρ, F_X9_tellAunt_169 (nI x2) ν2 = some ((), ρ) ∧ y_X sd μ0 k pl 110 ρ := ⟨ν2, by rw [F_X9_tellAunt_169, a5.must, x_b_s, if_neg a5.le0], a5⟩
        exact ⟨τ2, ρ, by rw [a3, x_b_s]; exact r1.1, Or.inr ⟨by rw [a2, x_b_s, if_pos rfl], k, pl, a4, r1.2.mono (by omega)⟩⟩
    · have gk : p_R σ0 μ0 P m sd (h + 4) (h + 4) τ' (x_pI ν 15 (6 * sd + A) 0) := s4.pIy (by unfold y_Fs; omega) (by omega) _
      have e15 : (x_pI ν 15 (6 * sd + A) 0).1 15 (6 * sd + A) = 0 := by rw [x_pI_1, if_pos ⟨rfl, rfl⟩]
      rw [if_neg (show ¬ nI (K (h + 4)) = (12 : Int32) from fun w => z ((nI_eq (b := 12) (by omega) (by decide)).mp w)), if_neg z, if_pos rfl, F_X4_tellAunt_104, if_pos rfl, F_X9_tellAunt_154, F_X9_tellAunt_155, x_gd_t hi, x_pt_s, ix, v0, x_gd_t hi, if_pos e15]
      refine (p_118 (s := 0) ht hA (by decide) hx2 ?_ (by omega) gk (tl (by omega) s5 (y15 0)) (tn.ar s5 (y15 0) s8) (fun j hj => ?_) ?_).mono (by omega)
      · rw [(y15 0).2]; exact hy
      · rw [x_pI_1, if_neg (by omega)]; exact s7 j hj
      · rw [e15]; rfl
  · refine ⟨τ, ρ, s1, Or.inr ⟨?_, k, pl, s2, s3.mono (by omega)⟩⟩
    rcases s4 with s4 | ⟨τ1, s4, s5⟩
    · rw [c_CR, s4, x_b_s, if_pos rfl]
    · rw [c_CR, s4, x_b_s, if_neg (show ¬ (1 : Int32) = 0 by decide), s5, x_b_s, if_pos rfl]
end AUNT3
