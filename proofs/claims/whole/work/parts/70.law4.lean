/-! READING: a law from its word on, both -/
section LAW4
variable {σ0 μ0 : x_Hp} {K P : Nat → Nat} {m sd : Nat}
theorem p_TL.bd {S N C bn h ex : Nat} {L : x_LW} {σ μ : x_Hp} (t : p_TL sd S N C bn h ex L σ μ) (hh : h ≤ 400) (hb : 4 * bn ≤ h) : y_bd sd 110 μ := by
  obtain ⟨b1, b2, b3, b4, e1, e2, e3, e4, e5, e6, ⟨w, w1, w2, w3⟩, c3, c4⟩ := t
  exact ⟨⟨130 * sd + bn, by omega, by omega, e6⟩, w, C, w1, w2, b3, by omega, e4⟩
theorem p_law (ht : t_fin σ0 μ0 K P m) {h kq S N C bn : Nat} {L : x_LW} {σ μ : x_Hp} (hq : kq < 7) (hb4 : 4 * bn ≤ h) (g : p_R σ0 μ0 P m sd h h σ μ) (hK : K h = 2 + kq) (t : p_TL sd S N C bn h 7 L σ μ) : p_LO σ0 μ0 P m sd kq L h σ μ (F_X4_tellLaw (nI kq) σ) (F_X9_tellOne_275 (nI kq) μ) := by
  have h4 := g.2.2.2.1
  have hsd := g.2.2.1
  have hbd := t.bd h4.1 hb4
  obtain ⟨b1, b2, b3, b4, e1, e2, e3, e4, e5, e6, ⟨w, w1, w2, w3⟩, c3, c4⟩ := t
  have hle : μ.1 0 13 ≤ 0 := by rw [g.k13]; decide
  have bad : ∀ (ν : x_Hp) (k pl : Nat) (f0 : Int32), y_X sd μ0 k pl 110 ν → ∃ ρ, F_X9_tellLaw_12 x_fuel (nI kq) f0 0 ν = some ((), ρ) ∧ y_X sd μ0 k pl 120 ρ := fun ν k pl f0 y => by
    obtain ⟨ρ, s1, s2⟩ := y.law12 (by omega) (x_fuel - 1) (nI kq) f0 0
    exact ⟨ρ, s1, s2.mono (by omega)⟩
  rcases p_step ht g (by omega) (by omega) hbd with ⟨a1, a2, a3, a4⟩ | ⟨τ, ν, a2, a3, ⟨k, pl, a4, a5⟩, a6⟩
  · have hbd2 : y_bd sd 110 (x_pI μ 0 11 (nI (h + 1))) := hbd.hd (y_hd.pI μ (by omega) _)
    have hm := p_must ht a4 (by omega) hbd2 (kc := 61) (by unfold n_kd; omega) (by decide)
    have hc : F_X4_tellLaw (nI kq) σ = x_b (F_X4_take_ (nI 61) (x_pI σ 14 6 (nI (h + 1)))) (fun v2 σ2 => if v2 = 0 then some ((0 : Int32), σ2) else x_b (F_X1_beginLaw 28 (nI kq) σ2) fun _ σ3 => F_X4_tellLaw_31 x_fuel (nI kq) (0 : Int32) σ3) := by
      rw [F_X4_tellLaw, a2, x_b_s, if_neg (show ¬ (1 : Int32) = 0 by decide)]; rfl
    have hr : F_X9_tellOne_275 (nI kq) μ = x_b (x_b (F_X9_must (nI (n_tk 61)) (x_pI μ 0 11 (nI (h + 1)))) (fun _ σ1 => F_X9_tellLaw_12 x_fuel (nI kq) (σ1.1 0 34) (0 : Int32) σ1)) (fun _ σ29 => some ((), σ29)) := by
      rw [F_X9_tellOne_275, if_pos hle, a3, x_b_s, F_X9_tellLaw]; rfl
    have unit : ∀ {x : Option (Unit × x_Hp)} {ν : x_Hp}, x = some ((), ν) → x_b x (fun _ σ29 => some ((), σ29)) = some ((), ν) := fun e => by rw [e, x_b_s]
    rcases hm with ⟨m1, m2, m3, m4, m5⟩ | ⟨τ, ν, m3, m4, k, pl, m5, m6⟩
    · have fr : ∀ a j, a ≠ 14 → (x_pI (x_pI (x_pI (x_pI σ 14 6 (nI (h + 1))) 14 6 (nI (h + 1 + 1))) 31 kq (nI N)) 32 kq 0).1 a j = if a = 32 ∧ j = kq then 0 else if a = 31 ∧ j = kq then nI N else σ.1 a j := fun a j ha => by
        rw [x_pI_1, x_pI_1, x_pI_1 (x_pI σ 14 6 _), if_neg (show ¬ (a = 14 ∧ j = 6) by omega), x_pI_1 σ, if_neg (show ¬ (a = 14 ∧ j = 6) by omega)]
      have fy : ∀ a j, ¬ (a = 0 ∧ j = 11) → (x_pI (x_pI μ 0 11 (nI (h + 1))) 0 11 (nI (h + 1 + 1))).1 a j = μ.1 a j := fun a j ha => by
        rw [x_pI_1, if_neg ha, x_pI_1, if_neg ha]
      have e2' : (x_pI (x_pI σ 14 6 (nI (h + 1))) 14 6 (nI (h + 1 + 1))).1 28 3 = nI N := by rw [x_pI_1, if_neg (by omega), x_pI_1, if_neg (by omega)]; exact e2
      have bl : F_X1_beginLaw 28 (nI kq) (x_pI (x_pI σ 14 6 (nI (h + 1))) 14 6 (nI (h + 1 + 1))) = some ((), x_pI (x_pI (x_pI (x_pI σ 14 6 (nI (h + 1))) 14 6 (nI (h + 1 + 1))) 31 kq (nI N)) 32 kq 0) := by
        rw [F_X1_beginLaw, e2', show x_rf TX 28 4 = 31 by decide +kernel, show x_rf TX 28 5 = 32 by decide +kernel, e_put, x_b_s, x_pT_nI _ _ (by rw [lnX_31]; exact hq), e_put, x_b_s, x_pT_nI _ _ (by rw [lnX_32]; exact hq)]
      have new : p_LS σ0 μ0 P m sd kq N bn 0 L [] (h + 1 + 1) S N C (x_pI (x_pI (x_pI (x_pI σ 14 6 (nI (h + 1))) 14 6 (nI (h + 1 + 1))) 31 kq (nI N)) 32 kq 0) (x_pI (x_pI μ 0 11 (nI (h + 1))) 0 11 (nI (h + 1 + 1))) := by
        refine ⟨(m5.pIc (a := 31) (b := kq) (by omega) _).pIc (a := 32) (b := kq) (by omega) _, ⟨by omega, by omega, by omega, by omega⟩, ⟨by rw [fr _ _ (by omega), if_neg (by omega), if_neg (by omega)]; exact e1, by rw [fr _ _ (by omega), if_neg (by omega), if_neg (by omega)]; exact e2, by rw [fr _ _ (by omega), if_neg (by omega), if_neg (by omega)]; exact e3⟩, ⟨by rw [fy _ _ (by omega)]; exact e4, by rw [fy _ _ (by omega)]; exact e5, by rw [fy _ _ (by omega)]; exact e6, w, w1, by rw [fy _ _ (by omega)]; exact w2, w3⟩, ⟨by omega, rfl, by omega⟩, ⟨by rw [fr _ _ (by omega), if_neg (by omega), if_pos ⟨rfl, rfl⟩], by rw [fr _ _ (by omega), if_pos ⟨rfl, rfl⟩]; rfl⟩, trivial, trivial, ?_, ?_⟩
        · exact c3.ag (Nat.le_refl _) (Nat.le_refl _) (fun b _ => by rw [fr _ _ (by omega), if_neg (by omega), if_neg (by omega)]) (fun b _ => by rw [fr _ _ (by omega), if_neg (by omega), if_neg (by omega)]) (fun k v1 v2 => ⟨by omega, by rw [fr _ _ (by omega), if_neg (by omega), if_neg (by omega)], by rw [fr _ _ (by omega), if_neg (by omega), if_neg (by omega)]⟩)
        · exact c4.ag (Nat.le_refl _) (Nat.le_refl _) (fun a b _ _ _ => fy _ _ (by omega)) (fun a j _ _ _ _ => fy _ _ (by omega)) (fun k v1 v2 => ⟨by omega, fy _ _ (by omega), fy _ _ (by omega)⟩)
      obtain ⟨τ', ν', s1, s2⟩ := p_law_loop ht hq 4 0 rfl x_fuel x_fuel (h + 1 + 1) S N C [] _ _ new (by decide) (by decide)
      refine ⟨τ', ν', ?_, ?_⟩
      · rw [hr]
        refine unit ?_
        rw [m4, x_b_s, fy _ _ (by omega), e6]; exact s1
      · have hcc : F_X4_tellLaw (nI kq) σ = F_X4_tellLaw_31 x_fuel (nI kq) (nI 0) (x_pI (x_pI (x_pI (x_pI σ 14 6 (nI (h + 1))) 14 6 (nI (h + 1 + 1))) 31 kq (nI N)) 32 kq 0) := by
          rw [hc, m3, x_b_s, if_neg (show ¬ (1 : Int32) = 0 by decide), bl, x_b_s]; rfl
        rcases s2 with ⟨c, h', S', N', C', bn', qz, t1, t2, t3, t4, t5, t6, t7⟩ | ⟨c, s2⟩
        · refine Or.inl ⟨by rw [hcc]; exact c, h', S', N', C', bn', qz, t1, by omega, t3, t4, t5, ?_, ?_⟩
          · exact ((((c_lf.pI σ (a := 14) (b := 6) (by omega) _).tr (c_lf.pI _ (a := 14) (b := 6) (by omega) _)).tr (c_lf.pI _ (a := 31) (b := kq) (by omega) _)).tr (c_lf.pI _ (a := 32) (b := kq) (by omega) _)).tr t6
          · exact ((y_lf.pI μ (a := 0) (b := 11) (by omega) _).tr (y_lf.pI _ (a := 0) (b := 11) (by omega) _)).tr t7
        · exact Or.inr ⟨by rw [hcc]; exact c, s2⟩
    · obtain ⟨ρ, s1, s2⟩ := bad ν k pl (ν.1 0 34) m6
      refine ⟨τ, ρ, ?_, Or.inr ⟨by rw [hc, m3, x_b_s, if_pos rfl], k, pl, m5, s2⟩⟩
      rw [hr]; refine unit ?_
      rw [m4, x_b_s]; exact s1
  · obtain ⟨ρ, s1, s2⟩ := bad ν k pl (ν.1 0 34) a5
    refine ⟨τ, ρ, ?_, Or.inr ⟨by rw [F_X4_tellLaw, a2, x_b_s, if_pos rfl], k, pl, a4, s2⟩⟩
    rw [F_X9_tellOne_275, if_pos hle, a3, x_b_s, F_X9_tellLaw, a5.must, x_b_s, s1, x_b_s]
end LAW4
