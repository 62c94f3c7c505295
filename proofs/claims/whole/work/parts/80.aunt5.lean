/-! READING: an aunt's line, both -/
section AUNT5
variable {σ0 μ0 : x_Hp} {K P : Nat → Nat} {m sd h : Nat}
theorem p_step_lt (ht : t_fin σ0 μ0 K P m) {σ μ : x_Hp} {q B : Nat} (g : p_R σ0 μ0 P m sd q h σ μ) (hq : q ≤ h + 1) (hl : h < 400) (hk : K h ≠ 32) (hb : y_bd sd B μ) : F_X4_take σ = some (1, x_pI σ 14 6 (nI (h + 1))) ∧ F_X9_goesOn μ = some ((), x_pI μ 0 11 (nI (h + 1))) ∧ p_R σ0 μ0 P m sd (h + 1) (h + 1) (x_pI σ 14 6 (nI (h + 1))) (x_pI μ 0 11 (nI (h + 1))) := by
  rcases p_step ht g hq hk hb with ⟨_, a, b, c⟩ | ⟨τ, ν, a, _⟩
  · exact ⟨a, b, c⟩
  · rw [F_X4_take, g.2.2.2.2.1, if_pos (show nI h < (400 : Int32) from nI_lt (b := 400) hl (by decide)), x_pt_s] at a
    have := congrArg Prod.fst (Option.some.inj a)
    exact absurd (show (1 : Int32) = 0 from this) (by decide)
theorem p_must_lt (ht : t_fin σ0 μ0 K P m) {σ μ : x_Hp} {q B kc : Nat} (g : p_R σ0 μ0 P m sd q h σ μ) (hq : q ≤ h + 1) (hl : h < 400) (hkc : n_kd kc) (hk : K h = kc) (hk2 : kc ≠ 32) (hb : y_bd sd B μ) : F_X4_take_ (nI kc) σ = some (1, x_pI σ 14 6 (nI (h + 1))) ∧ F_X9_must (nI (n_tk kc)) μ = some ((), x_pI μ 0 11 (nI (h + 1))) ∧ p_R σ0 μ0 P m sd (h + 1) (h + 1) (x_pI σ 14 6 (nI (h + 1))) (x_pI μ 0 11 (nI (h + 1))) := by
  obtain ⟨b, c, d⟩ := p_step_lt ht g hq hl (by rw [hk]; exact hk2) hb
  refine ⟨?_, ?_, d⟩
  · rw [F_X4_take_, g.kind ht, x_b_s, if_pos (by rw [hk]), b, x_b_s, x_gd_t (by decide)]
  · rw [F_X9_must, g.is ht hkc, x_b_s, if_pos hk, if_neg (by decide), c, x_b_s]
theorem p_must_end (ht : t_fin σ0 μ0 K P m) {σ μ : x_Hp} {q B kc : Nat} (g : p_R σ0 μ0 P m sd q h σ μ) (hl : h = 400) (hkc : n_kd kc) (hk : K h = kc) (hb : y_bd sd B μ) : ∃ τ ν, F_X4_take_ (nI kc) σ = some (0, τ) ∧ F_X9_must (nI (n_tk kc)) μ = some ((), ν) ∧ p_C σ0 2 (P h) τ ∧ y_X sd μ0 2 (P h) B ν := by
  obtain ⟨τ, ν, a, b, c, d, _⟩ := p_fail ht g hb (k := 2) (Or.inr rfl)
  refine ⟨τ, ν, ?_, ?_, c, d⟩
  · have tk : F_X4_take σ = some (0, τ) := by
      rw [F_X4_take, g.2.2.2.2.1, if_neg (show ¬ nI h < (400 : Int32) from nI_nlt (a := h) (b := 400) (by omega) (by omega)), show (2 : Int32) = nI 2 from rfl, a, x_b_s, x_gd_t (by decide)]
    rw [F_X4_take_, g.kind ht, x_b_s, if_pos (by rw [hk]), tk, x_b_s, x_gd_t (by decide)]
  · have tk : F_X9_goesOn μ = some ((), ν) := by
      rw [F_X9_goesOn, g.2.2.2.2.2.1, if_pos (by rw [hl]; rfl), show (2 : Int32) = nI 2 from rfl, b, x_b_s]
    rw [F_X9_must, g.is ht hkc, x_b_s, if_pos hk, if_neg (by decide), tk, x_b_s]
theorem y_bad34 {k pl B A : Nat} {ν : x_Hp} (h : y_X sd μ0 k pl B ν) (hA : A < 6) (x2 : Int32) : ∃ ρ, F_X9_tellAunt_34 x_fuel (nI (6 * sd + A)) x2 0 ν = some ((), ρ) ∧ y_X sd μ0 k pl B ρ := by
  have b34 : F_X9_tellAunt_34 x_fuel (nI (6 * sd + A)) x2 0 ν = F_X9_tellAunt_77 (nI (6 * sd + A)) x2 ν := by
    show F_X9_tellAunt_34 ((x_fuel - 1) + 1) (nI (6 * sd + A)) x2 0 ν = _
    rw [F_X9_tellAunt_34, if_neg h.n0]
    split <;> rfl
  rw [b34]
  exact h.aunt77 (by omega) (by omega) x2
/-- from the name on, when it is known to both -/
theorem p_aunt_known (ht : t_fin σ0 μ0 K P m) {A S N C bn : Nat} {L : x_LW} {σ μ : x_Hp} {y1 : Int64} (hA : A < 6) (hb4 : 4 * bn ≤ h) (g : p_R σ0 μ0 P m sd h h σ μ) (hK : K h = 30) (t : p_TL sd S N C bn h 7 L σ μ) (tn : p_TN sd A σ μ) (hy : μ.2 6 h = y1) (hy2 : ∃ a, 0 ≤ a ∧ a < A ∧ lg_cmp (μ.2 8 a) (μ.2 6 h) = 0) : p_GO σ0 μ0 P m sd h (x_b (F_X4_note (3 : Int32) σ) (fun _ σ5 => F_X4_tellAunt_57 y1 σ5)) (x_b (F_X9_must (1 : Int32) μ) (fun _ σ3 => F_X9_tellAunt_34 x_fuel (nI (6 * sd + A)) (nI h) (0 : Int32) σ3)) := by
  have h4 := g.2.2.2.1
  have hsd := g.2.2.1
  have hbd := t.bd h4.1 hb4
  obtain ⟨τ, ν, n1, n2, n3, n4, n5, n6, n7⟩ := p_note ht g (w := 3) (Or.inl rfl)
  have n1' : F_X4_note 3 σ = some ((), τ) := n1
  have n2' : F_X9_wrong 3 (nI h) μ = some ((), ν) := n2
  have hbv : y_bd sd 110 ν := hbd.hd n5
  have kd : n_kd 30 := by unfold n_kd; omega
  rw [n1', x_b_s, c_57]
  by_cases hl : h < 400
  · obtain ⟨a1, _, a3⟩ := p_must_lt ht n3 (Nat.le_refl _) hl kd hK (by decide) hbv
    obtain ⟨_, b2, _⟩ := p_must_lt ht g (by omega) hl kd hK (by decide) hbd
    have a1' : F_X4_take_ 30 τ = some (1, x_pI τ 14 6 (nI (h + 1))) := a1
    have b2' : F_X9_must 1 μ = some ((), x_pI μ 0 11 (nI (h + 1))) := b2
    have cc : c_hd σ (x_pI τ 14 6 (nI (h + 1))) := n4.tr (c_hd.pI _ (by omega) _)
    have y0 : y_hd μ (x_pI ν 0 11 (nI (h + 1))) := n5.tr (y_hd.pI _ (by omega) _)
    have yy : y_ar sd A μ (x_pI ν 0 11 (nI (h + 1))) := ⟨fun a b z1 _ => y0.1 a b z1, y0.2⟩
    have lp : F_X9_tellAunt_34 x_fuel (nI (6 * sd + A)) (nI h) (nI 0) (x_pI μ 0 11 (nI (h + 1))) = F_X9_tellAunt_77 (nI (6 * sd + A)) (nI h) (x_pI ν 0 11 (nI (h + 1))) :=
      y_34k (A := A) (by omega) (by omega) (by rw [x_pI_1, if_neg (by omega)]; exact tn.2.2.1) (by rw [x_pI_1, if_neg (by omega)]; exact g.k13) (by rw [y0.1 _ _ (by omega)]; exact tn.2.2.1) a3.k13 (y_wrong11 _ n2') (y_wrong11 _ (y_wrong2 (by decide) n2')) (nI (6 * sd + A)) A 0 x_fuel (by omega) (by rw [x_fuel]; omega) hy2
    have lp' : F_X9_tellAunt_34 x_fuel (nI (6 * sd + A)) (nI h) 0 (x_pI μ 0 11 (nI (h + 1))) = F_X9_tellAunt_77 (nI (6 * sd + A)) (nI h) (x_pI ν 0 11 (nI (h + 1))) := lp
    rw [a1', x_b_s, if_neg (show ¬ (1 : Int32) = 0 by decide), b2', x_b_s, lp']
    exact (p_tail ht hA (by omega) (show (x_pI ν 0 11 (nI (h + 1))).2 6 h = y1 by rw [y0.2]; exact hy) (by omega) a3 (t.ag (by omega) (fun a b q1 q2 => cc.1 a b (by omega) (by omega)) (fun a b q => y0.1 a b (by omega))) (tn.ar cc yy (fun e => absurd (by rw [x_pI_1, if_neg (by omega)] at e; exact e) n6))).mono (by omega)
  · have h400 : h = 400 := by omega
    obtain ⟨τ', _, a1, _, a3, _⟩ := p_must_end ht n3 h400 kd hK hbv
    obtain ⟨_, ν', _, b2, _, b4⟩ := p_must_end ht g h400 kd hK hbd
    have a1' : F_X4_take_ 30 τ = some (0, τ') := a1
    have b2' : F_X9_must 1 μ = some ((), ν') := b2
    obtain ⟨ρ, r1, r2⟩ := y_bad34 b4 hA (nI h)
    exact ⟨τ', ρ, by rw [b2', x_b_s, r1], Or.inr ⟨by rw [a1', x_b_s, if_pos rfl], 2, P h, a3, r2.mono (by omega)⟩⟩
theorem p_GO.unit {cl : Option (Int32 × x_Hp)} {rf : Option (Unit × x_Hp)} (g : p_GO σ0 μ0 P m sd h cl rf) : p_GO σ0 μ0 P m sd h cl (x_b rf (fun _ s => some ((), s))) := by
  obtain ⟨τ, ν, a, b⟩ := g
  exact ⟨τ, ν, by rw [a, x_b_s], b⟩
theorem p_GO.isz {cl : Option (Int32 × x_Hp)} {rf : Option (Unit × x_Hp)} (g : p_GO σ0 μ0 P m sd h cl rf) : p_GO σ0 μ0 P m sd h (x_b cl (fun v s => x_gd (x_isz v) <| some (v, s))) rf := by
  obtain ⟨τ, ν, a, b⟩ := g
  refine ⟨τ, ν, a, ?_⟩
  rcases b with ⟨b, c⟩ | ⟨b, c⟩
  · exact Or.inl ⟨by rw [b, x_b_s, x_gd_t (by decide)], c⟩
  · exact Or.inr ⟨by rw [b, x_b_s, x_gd_t (by decide)], c⟩
/-- an aunt's line -/
theorem p_aunt (ht : t_fin σ0 μ0 K P m) {A S N C bn : Nat} {L : x_LW} {σ μ : x_Hp} (hb4 : 4 * bn ≤ h) (g : p_R σ0 μ0 P m sd h h σ μ) (hK : K h = 1) (t : p_TL sd S N C bn h 7 L σ μ) (tn : p_TN sd A σ μ) : p_GO σ0 μ0 P m sd h (F_X4_tellAunt σ) (if (μ.1 10 (x_ix (μ.1 0 19))) = (6 : Int32) then x_b (F_X9_fail (2 : Int32) μ) (fun _ σ4 => F_X9_tellOne_140 σ4) else F_X9_tellOne_140 μ) := by
  have h4 := g.2.2.2.1
  have hsd := g.2.2.1
  have hbd := t.bd h4.1 hb4
  have hA := tn.1
  have h19 : μ.1 0 19 = nI sd := g.2.2.2.2.2.2.2.2
  have h10 : μ.1 10 sd = nI A := tn.2.2.2.1
  rw [h19, x_ix_nI (by omega), h10, F_X4_tellAunt, tn.2.1]
  by_cases z : A < 6
  · rw [if_pos (show nI A < (6 : Int32) from nI_lt (b := 6) z (by decide)), if_neg (show ¬ nI A = (6 : Int32) from fun w => by have : A = 6 := (nI_eq (b := 6) (by omega) (by decide)).mp w; omega), F_X9_tellOne_140, if_pos g.k13]
    refine p_GO.unit ?_
    have ad : ∀ ν : x_Hp, ν.1 0 19 = nI sd → ν.1 10 sd = nI A → ((6 : Int32) * (ν.1 0 19)) + (ν.1 10 (x_ix (ν.1 0 19))) = nI (6 * sd + A) := fun ν e1 e2 => by
      rw [e1, x_ix_nI (by omega), e2, show (6 : Int32) * nI sd = nI (6 * sd) from pk_mul 6 _, nI_add]
    rcases p_step ht g (by omega) (by omega) hbd with ⟨a0, a1, a2, a3⟩ | ⟨τ, ν, a1, a2, ⟨k, pl, a4, a5⟩, a6⟩
    · have e19 : (x_pI μ 0 11 (nI (h + 1))).1 0 19 = nI sd := a3.2.2.2.2.2.2.2.2
      have e11 : (x_pI μ 0 11 (nI (h + 1))).1 0 11 = nI (h + 1) := a3.2.2.2.2.2.1
      have tk := a3.tk ht a3.2.2.2.1.2
      have t1 : p_TL sd S N C bn (h + 1) 7 L (x_pI σ 14 6 (nI (h + 1))) (x_pI μ 0 11 (nI (h + 1))) := t.ag (by omega) (fun a b q1 q2 => by rw [x_pI_1, if_neg (by omega)]) (fun a b q => by rw [x_pI_1, if_neg (by omega)])
      have tn1 : p_TN sd A (x_pI σ 14 6 (nI (h + 1))) (x_pI μ 0 11 (nI (h + 1))) := tn.ar (c_hd.pI _ (by omega) _) ⟨fun a b z1 _ => by rw [x_pI_1, if_neg (by omega)], fun a b => rfl⟩ (fun e => by rw [x_pI_1, if_neg (by omega)] at e; exact e)
      have wo : F_X4_worth (x_pI σ 14 6 (nI (h + 1))) = some ((x_pI σ 14 6 (nI (h + 1))).2 17 (h + 1), x_pI σ 14 6 (nI (h + 1))) := by
        rw [F_X4_worth, a3.2.2.2.2.1, if_neg (nI_pos (by omega)), if_neg (show ¬ (402 : Int32) ≤ nI (h + 1) from nI_ge (b := 402) (by omega) (by decide)), x_gd_t (x_inb_nI (by omega) (by decide)), x_ix_nI (by omega)]
      have rf : F_X9_tellAunt μ = x_b (F_X9_must (1 : Int32) (x_pI μ 0 11 (nI (h + 1)))) (fun _ σ3 => F_X9_tellAunt_34 x_fuel (nI (6 * sd + A)) (nI (h + 1)) (0 : Int32) σ3) := by
        rw [F_X9_tellAunt, a2, x_b_s, ad _ e19 (by rw [x_pI_1, if_neg (by omega)]; exact h10), e19, e11, x_gd_t (x_inb_nI hsd (by decide))]
      rw [rf, a1, x_b_s, if_neg (show ¬ (1 : Int32) = 0 by decide), wo, x_b_s, a3.kind ht, x_b_s]
      have kl : K (h + 1) < 62 := by have := tk.1; unfold n_kd at this; omega
      refine p_GO.mono (h' := h + 1) ?_ (by omega)
      by_cases y : K (h + 1) = 30
      · have nm := tk.2.2.2.2.2.2.2 y
        rw [if_pos (show nI (K (h + 1)) = (30 : Int32) by rw [y]; rfl), nm]
        have kn := c_knows (σ := x_pI σ 14 6 (nI (h + 1))) tn1.2.1 tn1.1 ((x_pI μ 0 11 (nI (h + 1))).2 6 (h + 1)) A 0 x_fuel (by omega) (by rw [x_fuel]; omega)
        have nms : ∀ a, a < A → (x_pI σ 14 6 (nI (h + 1))).2 22 a = (x_pI μ 0 11 (nI (h + 1))).2 8 a := fun a ha => (tn1.2.2.2.2.1 a ha).1
        by_cases w : ∃ a, a < A ∧ lg_cmp ((x_pI μ 0 11 (nI (h + 1))).2 8 a) ((x_pI μ 0 11 (nI (h + 1))).2 6 (h + 1)) = 0
        · obtain ⟨a, w1, w2⟩ := w
          have k1 : F_X6_knows 21 ((x_pI μ 0 11 (nI (h + 1))).2 6 (h + 1)) (x_pI σ 14 6 (nI (h + 1))) = some (1, x_pI σ 14 6 (nI (h + 1))) := kn.1 ⟨a, Nat.zero_le _, w1, by rw [nms a w1]; exact w2⟩
          rw [k1, x_b_s, if_neg (show ¬ (1 : Int32) = 0 by decide)]
          exact p_aunt_known ht z (by omega) a3 y t1 tn1 rfl ⟨a, Nat.zero_le _, w1, w2⟩
        · have w' : ∀ a, a < A → ¬ lg_cmp ((x_pI μ 0 11 (nI (h + 1))).2 8 a) ((x_pI μ 0 11 (nI (h + 1))).2 6 (h + 1)) = 0 := fun a a1 a2 => w ⟨a, a1, a2⟩
          have k1 : F_X6_knows 21 ((x_pI μ 0 11 (nI (h + 1))).2 6 (h + 1)) (x_pI σ 14 6 (nI (h + 1))) = some (0, x_pI σ 14 6 (nI (h + 1))) := kn.2 (fun a _ w1 => by rw [nms a w1]; exact w' a w1)
          rw [k1, x_b_s, if_pos rfl]
          exact p_aunt_new ht z (by omega) a3 t1 tn1 (fun _ => ⟨rfl, w'⟩)
      · rw [if_neg (show ¬ nI (K (h + 1)) = (30 : Int32) from fun w => y ((nI_eq (b := 30) (by omega) (by decide)).mp w))]
        exact p_aunt_new ht z (by omega) a3 t1 tn1 (fun w => absurd w y)
    · have e10 : ν.1 10 sd = nI A := by rw [a6.1 _ _ (by omega)]; exact h10
      obtain ⟨ρ, r1, r2⟩ := y_bad34 a5 z (ν.1 0 11)
      exact ⟨τ, ρ, by rw [F_X9_tellAunt, a2, x_b_s, ad _ a5.e19 e10, a5.e19, x_gd_t (x_inb_nI hsd (by decide)), a5.must, x_b_s, r1], Or.inr ⟨by rw [a1, x_b_s, if_pos rfl], k, pl, a4, r2.mono (by omega)⟩⟩
  · have hA6 : A = 6 := by omega
    obtain ⟨τ, ν, a, b, c, d, _⟩ := p_fail ht g hbd (k := 2) (Or.inr rfl)
    have a' : F_X4_fail 2 σ = some (0, τ) := a
    have b' : F_X9_fail 2 μ = some ((), ν) := b
    subst hA6
    rw [if_neg (show ¬ nI 6 < (6 : Int32) by decide), if_pos (show nI 6 = (6 : Int32) from rfl), a', x_b_s, x_gd_t (by decide), b', x_b_s, F_X9_tellOne_140, if_neg d.n0]
    exact ⟨τ, ν, rfl, Or.inr ⟨rfl, 2, P h, c, d.mono (by omega)⟩⟩
end AUNT5
