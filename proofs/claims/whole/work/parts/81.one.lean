/-! READING: a told line, both; all of them -/
theorem ite_both {α : Type} {p : Prop} [Decidable p] {a b x : α} (h1 : a = x) (h2 : b = x) : (if p then a else b) = x := by
  by_cases q : p
  · rw [if_pos q]; exact h1
  · rw [if_neg q]; exact h2
theorem n_else' : ∀ k, k ∈ n_kl → 12 ≤ k → (¬ nI (n_tk k) = 20 ∧ ¬ nI (n_tk k) = 21 ∧ ¬ nI (n_tk k) = 30 ∧ ¬ nI (n_tk k) = 31 ∧ ¬ nI (n_tk k) = 32) ∧ (nI (n_tk k) - 23 < 0 ∨ ¬ nI (n_tk k) ≤ 29) := by decide +kernel
theorem n_laws' : ∀ q, q < 7 → n_tk (2 + q) = 23 + q := by decide +kernel
theorem y_one_else {μ : x_Hp} {c : Int32} {h : Nat} (e11 : μ.1 0 11 = nI h) (hh : h < 403) (e3 : μ.1 3 h = c) (c1 : ¬ c = 20) (c2 : ¬ c = 21) (c3 : ¬ c = 30) (c4 : ¬ c = 31) (c5 : ¬ c = 32) : F_X9_tellOne μ = F_X9_tellOne_239 μ := by
  rw [F_X9_tellOne, e11, x_gd_t (x_inb_nI hh (by decide)), x_ix_nI (by omega), e3, if_neg c1, if_neg c2]
  refine ite_both rfl (ite_both rfl (ite_both rfl (ite_both rfl (ite_both rfl (ite_both rfl (ite_both rfl (ite_both rfl ?_)))))))
  rw [if_neg c3, if_neg c4, if_neg c5]
section ONE
variable {σ0 μ0 : x_Hp} {K P : Nat → Nat} {m sd h : Nat}
theorem p_LO.go {kq A : Nat} {L : x_LW} {σ μ : x_Hp} {cl : Option (Int32 × x_Hp)} {rf : Option (Unit × x_Hp)} (q : p_LO σ0 μ0 P m sd kq L h σ μ cl rf) (tn : p_TN sd A σ μ) : p_GO σ0 μ0 P m sd h cl rf := by
  obtain ⟨τ, ν, a, b⟩ := q
  refine ⟨τ, ν, a, ?_⟩
  rcases b with ⟨b, h', S, N, C, bn, qz, c1, c2, c3, c4, c5, c6, c7⟩ | b
  · exact Or.inl ⟨b, h', S, N, C, bn, _, A, c1, c2, c3, c4, c5, tn.ag (fun a b z1 z2 => c6.1 a b (by omega) (by omega) (by omega) (by omega)) (fun a b z => c7.1 a b (by omega) (by omega)) (fun b => c6.2 _ _) (fun b => c7.2 _ _) (fun e => by rw [c6.1 _ _ (by omega) (by omega) (by omega) (by omega)] at e; exact e)⟩
  · exact Or.inr b
theorem p_lin1 (ht : t_fin σ0 μ0 K P m) {A S N C bn : Nat} {L : x_LW} {σ μ : x_Hp} (hb4 : 4 * bn ≤ h) (g : p_R σ0 μ0 P m sd h h σ μ) (hK : K h ≠ 32) (t : p_TL sd S N C bn h 7 L σ μ) (tn : p_TN sd A σ μ) : p_GO σ0 μ0 P m sd h (F_X4_tellOne σ) (F_X9_tellOne μ) := by
  have h4 := g.2.2.2.1
  have hsd := g.2.2.1
  have hbd := t.bd h4.1 hb4
  have tk := g.tk ht h4.2
  have e3 : μ.1 3 h = nI (n_tk (K h)) := tk.2.2.2.2.1
  have e11 : μ.1 0 11 = nI h := g.2.2.2.2.2.1
  have e19 : μ.1 0 19 = nI sd := g.2.2.2.2.2.2.2.2
  have kl : K h < 62 := by have := tk.1; unfold n_kd at this; omega
  have h403 : h < 403 := by omega
  have ne : ∀ {a b : Nat}, a < 62 → b < 62 → a ≠ b → ¬ nI a = nI b := fun ha hb z w => z ((nI_eq (by omega) (by omega)).mp w)
  rw [F_X4_tellOne, g.kind ht, x_b_s]
  by_cases k1 : K h = 1
  · have r : F_X9_tellOne μ = (if (μ.1 10 (x_ix (μ.1 0 19))) = (6 : Int32) then x_b (F_X9_fail (2 : Int32) μ) (fun _ σ4 => F_X9_tellOne_140 σ4) else F_X9_tellOne_140 μ) := by
      rw [F_X9_tellOne, e11, x_gd_t (x_inb_nI h403 (by decide)), x_ix_nI (by omega), e3, k1, if_neg (by decide), if_pos (by decide), e19, x_gd_t (x_inb_nI hsd (by decide))]
    rw [if_pos (show nI (K h) = (1 : Int32) by rw [k1]; rfl), r]
    exact (p_aunt ht hb4 g k1 t tn).isz
  rw [if_neg (show ¬ nI (K h) = (1 : Int32) from ne kl (by decide) k1)]
  by_cases k0 : K h = 0
  · have r : F_X9_tellOne μ = (x_b (F_X9_goesOn μ) fun _ σ2 => F_X9_tellOne_82 x_fuel (0 : Int32) σ2) := by
      rw [F_X9_tellOne, e11, x_gd_t (x_inb_nI h403 (by decide)), x_ix_nI (by omega), e3, k0, if_pos (by decide)]
    rw [if_pos (show nI (K h) = 0 by rw [k0]; rfl), r]
    exact (p_baby ht hb4 g k0 t tn).isz
  rw [if_neg (show ¬ nI (K h) = 0 from ne kl (by decide) k0), if_neg (show ¬ nI (K h) < (2 : Int32) from nI_nlt (a := K h) (b := 2) (by omega) (by omega))]
  by_cases k9 : K h < 9
  · obtain ⟨kq, hq, e⟩ : ∃ kq, kq < 7 ∧ K h = 2 + kq := ⟨K h - 2, by omega, by omega⟩
    have nt : n_tk (K h) = 23 + kq := by rw [e]; exact n_laws' kq hq
    have em : nI (23 + kq) - (23 : Int32) = nI kq := by rw [show (23 : Int32) = nI 23 from rfl, pk_sub (by omega)]; congr 1; omega
    have r : F_X9_tellOne μ = F_X9_tellOne_275 (nI kq) μ := by
      have c : ∀ b, b < 62 → b ≠ 23 + kq → ¬ nI (23 + kq) = nI b := fun b hb z => ne (by omega) hb (fun w => z w.symm)
      rw [y_one_else (c := nI (23 + kq)) e11 h403 (by rw [e3, nt]) (c 20 (by decide) (by omega)) (c 21 (by decide) (by omega)) (c 30 (by decide) (by omega)) (c 31 (by decide) (by omega)) (c 32 (by decide) (by omega)), F_X9_tellOne_239, e11, x_gd_t (x_inb_nI h403 (by decide)), x_ix_nI (by omega), e3, nt, em, if_neg (nI_pos (by omega)), x_gd_t (x_inb_nI h403 (by decide)), if_pos (show nI (23 + kq) ≤ (29 : Int32) from nI_le (b := 29) (by omega) (by omega))]
    rw [if_neg (show ¬ (9 : Int32) ≤ nI (K h) from nI_ge (b := 9) (by omega) (by decide)), r, show nI (K h) - (2 : Int32) = nI kq by rw [e, show (2 : Int32) = nI 2 from rfl, pk_sub (by omega)]; congr 1; omega]
    exact ((p_law ht hq hb4 g e t).go tn).isz
  rw [if_pos (show (9 : Int32) ≤ nI (K h) from nI_le (a := 9) (by omega) (by omega)), F_X4_tellOne_43]
  by_cases y9 : K h = 9
  · have r := p_number (fl := 4) (mx := 99) ht (Or.inl ⟨rfl, rfl⟩) hb4 g y9 t tn
    have e : F_X9_tellOne μ = (x_b (F_X9_goesOn μ) fun _ σ5 => x_b (F_X9_bounded (0 : Int32) (nI 99) σ5) fun v6 σ6 => x_gd (x_inb (σ5.1 0 19) 2) <| x_pt (x_pI σ6 (12 + 4) (x_ix (σ5.1 0 19)) v6) fun σ8 => x_b (F_X9_must (4 : Int32) σ8) fun _ σ9 => some ((), σ9)) := by
      rw [F_X9_tellOne, e11, x_gd_t (x_inb_nI h403 (by decide)), x_ix_nI (by omega), e3, y9, if_neg (by decide), if_neg (by decide), if_neg (by decide), if_neg (by decide), if_neg (by decide), if_neg (by decide), if_neg (by decide), if_neg (by decide), if_neg (by decide), if_neg (by decide), if_pos (by decide)]
      rfl
    rw [if_pos (show nI (K h) = (9 : Int32) by rw [y9]; rfl), F_X4_tellOne_61, y9, e]
    exact r.isz
  rw [if_neg (show ¬ nI (K h) = (9 : Int32) from ne kl (by decide) y9)]
  by_cases y10 : K h = 10
  · have r := p_number (fl := 5) (mx := 99) ht (Or.inr (Or.inl ⟨rfl, rfl⟩)) hb4 g y10 t tn
    have e : F_X9_tellOne μ = (x_b (F_X9_goesOn μ) fun _ σ5 => x_b (F_X9_bounded (0 : Int32) (nI 99) σ5) fun v6 σ6 => x_gd (x_inb (σ5.1 0 19) 2) <| x_pt (x_pI σ6 (12 + 5) (x_ix (σ5.1 0 19)) v6) fun σ8 => x_b (F_X9_must (4 : Int32) σ8) fun _ σ9 => some ((), σ9)) := by
      rw [F_X9_tellOne, e11, x_gd_t (x_inb_nI h403 (by decide)), x_ix_nI (by omega), e3, y10, if_neg (by decide), if_neg (by decide), if_neg (by decide), if_neg (by decide), if_neg (by decide), if_neg (by decide), if_neg (by decide), if_neg (by decide), if_neg (by decide), if_neg (by decide), if_neg (by decide), if_pos (by decide)]
      rfl
    rw [if_pos (show nI (K h) = (10 : Int32) by rw [y10]; rfl), F_X4_tellOne_61, y10, e]
    exact r.isz
  rw [if_neg (show ¬ nI (K h) = (10 : Int32) from ne kl (by decide) y10)]
  by_cases y11 : K h = 11
  · have r := p_number (fl := 6) (mx := 9999) ht (Or.inr (Or.inr ⟨rfl, rfl⟩)) hb4 g y11 t tn
    have e : F_X9_tellOne μ = (x_b (F_X9_goesOn μ) fun _ σ5 => x_b (F_X9_bounded (0 : Int32) (nI 9999) σ5) fun v6 σ6 => x_gd (x_inb (σ5.1 0 19) 2) <| x_pt (x_pI σ6 (12 + 6) (x_ix (σ5.1 0 19)) v6) fun σ8 => x_b (F_X9_must (4 : Int32) σ8) fun _ σ9 => some ((), σ9)) := by
      rw [F_X9_tellOne, e11, x_gd_t (x_inb_nI h403 (by decide)), x_ix_nI (by omega), e3, y11, if_neg (by decide), if_neg (by decide), if_neg (by decide), if_neg (by decide), if_neg (by decide), if_neg (by decide), if_neg (by decide), if_neg (by decide), if_neg (by decide), if_neg (by decide), if_neg (by decide), if_neg (by decide), if_pos (by decide)]
      rfl
    rw [if_pos (show nI (K h) = (11 : Int32) by rw [y11]; rfl), F_X4_tellOne_61, y11, e]
    exact r.isz
  rw [if_neg (show ¬ nI (K h) = (11 : Int32) from ne kl (by decide) y11)]
  obtain ⟨⟨c1, c2, c3, c4, c5⟩, c6⟩ := n_else' (K h) tk.1.mem (by omega)
  obtain ⟨τ, ν, a, b, c, d, _⟩ := p_fail ht g hbd (k := 1) (Or.inl rfl)
  have a' : F_X4_fail 1 σ = some (0, τ) := a
  have b' : F_X9_fail 1 μ = some ((), ν) := b
  have r70 : ∀ x, F_X9_tellOne_270 x μ = some ((), ν) := fun x => by rw [F_X9_tellOne_270, b', x_b_s, F_X9_tellOne_275, if_neg d.le0]
  have r : F_X9_tellOne μ = some ((), ν) := by
    rw [y_one_else e11 h403 e3 c1 c2 c3 c4 c5, F_X9_tellOne_239, e11, x_gd_t (x_inb_nI h403 (by decide)), x_ix_nI (by omega), e3]
    by_cases z : nI (n_tk (K h)) - (23 : Int32) < 0
    · rw [if_pos z]; exact r70 _
    · rw [if_neg z, x_gd_t (x_inb_nI h403 (by decide)), if_neg (c6.resolve_left z)]; exact r70 _
  refine ⟨τ, ν, r, Or.inr ⟨?_, 1, P h, c, d.mono (by omega)⟩⟩
  rw [a', x_b_s, x_gd_t (by decide)]
/-- what all the lines come to -/
def p_DO (σ0 μ0 : x_Hp) (P : Nat → Nat) (m sd : Nat) (cl : Option (Int32 × x_Hp)) (rf : Option (Int32 × x_Hp)) : Prop := ∃ τ ν, cl = F_X4_readTape_61 τ ∧ rf = F_X9_read_134 ν ∧ ((∃ h S N C bn L A, h ≤ 400 ∧ p_R σ0 μ0 P m sd h h τ ν ∧ p_TL sd S N C bn h 7 L τ ν ∧ 4 * bn ≤ h ∧ p_TN sd A τ ν) ∨ p_bad σ0 μ0 sd 120 τ ν)
theorem p_lines (ht : t_fin σ0 μ0 K P m) : ∀ (d f f2 h i S N C bn A : Nat) (L : x_LW) (σ μ : x_Hp), 401 ≤ h + d → i ≤ h → d < f → d < f2 → 4 * bn ≤ h → p_R σ0 μ0 P m sd h h σ μ → p_TL sd S N C bn h 7 L σ μ → p_TN sd A σ μ → p_DO σ0 μ0 P m sd (F_X4_readTape_30 f 1 (nI i) σ) (F_X9_read_112 f2 μ) := by
  intro d
  induction d with
  | zero => intro f f2 h i S N C bn A L σ μ hd _ _ _ _ g; exact absurd g.2.2.2.1.1 (by omega)
  | succ d ih =>
    intro f f2 h i S N C bn A L σ μ hd hi hf hf2 hb4 g t tn
    obtain ⟨f, rfl⟩ := Nat.exists_eq_succ_of_ne_zero (show f ≠ 0 by omega)
    obtain ⟨f2, rfl⟩ := Nat.exists_eq_succ_of_ne_zero (show f2 ≠ 0 by omega)
    have h4 := g.2.2.2.1
    have tk := g.tk ht h4.2
    have kl : K h < 62 := by have := tk.1; unfold n_kd at this; omega
    have i0 : F_X9_is 0 μ = some (if K h = 32 then 1 else 0, μ) := g.is ht (kc := 32) (by unfold n_kd; omega)
    show p_DO σ0 μ0 P m sd (F_X4_readTape_30 (f + 1) 1 (nI i) σ) (F_X9_read_112 (f2 + 1) μ)
    rw [F_X4_readTape_30, if_neg (show ¬ (400 : Int32) < nI i from nI_nlt (a := 400) (b := i) (by omega) (by omega)), if_neg (show ¬ (1 : Int32) = 0 by decide), g.kind ht, x_b_s, F_X9_read_112, if_pos g.k13, i0, x_b_s]
    by_cases z : K h = 32
    · rw [if_pos (show nI (K h) = (32 : Int32) by rw [z]; rfl), if_pos z, if_neg (show ¬ (1 : Int32) = 0 by decide)]
      exact ⟨σ, μ, rfl, rfl, Or.inl ⟨h, S, N, C, bn, L, A, h4.1, g, t, hb4, tn⟩⟩
    · rw [if_neg (show ¬ nI (K h) = (32 : Int32) from fun w => z ((nI_eq (b := 32) (by omega) (by decide)).mp w)), if_neg z, if_pos rfl]
      obtain ⟨τ, ν, a, b⟩ := p_lin1 ht hb4 g z t tn
      rw [a, x_b_s]
      rcases b with ⟨b, h', S', N', C', bn', L', A', c1, c2, c3, c4, c5, c6⟩ | ⟨b, k, pl, c1, c2⟩
      · rw [b, x_b_s, nI_1]
        exact ih f f2 h' (i + 1) S' N' C' bn' A' L' τ ν (by omega) (by omega) (by omega) (by omega) c5 c3 c4 c6
      · obtain ⟨f, rfl⟩ := Nat.exists_eq_succ_of_ne_zero (show f ≠ 0 by omega)
        obtain ⟨f2, rfl⟩ := Nat.exists_eq_succ_of_ne_zero (show f2 ≠ 0 by omega)
        rw [b, x_b_s]
        show p_DO σ0 μ0 P m sd (F_X4_readTape_30 (f + 1) 0 _ τ) (F_X9_read_112 (f2 + 1) ν)
        rw [F_X9_read_112, if_neg c2.n0, F_X4_readTape_30]
        refine ⟨τ, ν, ite_both rfl (by rw [if_pos rfl]), rfl, Or.inr ⟨k, pl, c1, c2⟩⟩
end ONE
