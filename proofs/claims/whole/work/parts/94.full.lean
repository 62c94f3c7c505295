/-! EVERY CALL KEEPS ALL -/
def f_call (K : Nat) (A B : Option (Int32 × x_Hp)) : Prop := ∃ r τ ν, A = some (r, τ) ∧ B = some (r, ν) ∧ r_full (K + 1) τ ν
theorem f_of {K : Nat} {σ μ : x_Hp} {A B : Option (Int32 × x_Hp)} (h : r_full K σ μ) (q : r_call (K + 1) A B) (k : kp μ B) : f_call K A B := by
  obtain ⟨r, τ, ν, a, b, hr⟩ := q
  obtain ⟨k1, k2⟩ := k r ν b
  exact ⟨r, τ, ν, a, b, hr, fun i hi => by rw [k1]; exact h.2.1 i hi, by rw [k2]; exact h.2.2⟩
theorem f_S {K : Nat} {σ μ : x_Hp} {A B : Option (Int32 × x_Hp)} (h : r_full K σ μ) (q : ∀ T lv N v, r_V σ μ T lv N (241 * K) v → q_S σ μ A B) (k : kp μ B) : f_call K A B := by
  obtain ⟨T, lv, N, v, ch, h1, -⟩ := id h.1
  exact f_of h (q_S.call h.1 (q T lv N v h1)) k
theorem f_feed {K : Nat} {σ μ : x_Hp} (hK : K ≤ 512) (h : r_full K σ μ) (x1 : Int32) (x2 : Int32) (x3 : Int32) (x4 : Int32) (x5 : Int32) : f_call K (F_X8_feed x1 x2 x3 x4 x5 σ) (F_X9_feed x1 x2 x3 x4 x5 μ) := f_of h (d_feed h.1 x1 x2 x3 x4 x5) (kp_X9_feed x1 x2 x3 x4 x5 kR.rfl')
theorem f_back {K : Nat} {σ μ : x_Hp} (hK : K ≤ 512) (h : r_full K σ μ) (x1 : Int32) : f_call K (F_X8_back x1 σ) (F_X9_back x1 μ) := f_of h (d_back h.1 x1) (kp_X9_back x1 kR.rfl')
theorem f_place {K : Nat} {σ μ : x_Hp} (hK : K ≤ 512) (h : r_full K σ μ) : f_call K (F_X8_place σ) (F_X9_place μ) := f_of h (d_place h.1) (kp_X9_place kR.rfl')
theorem f_now {K : Nat} {σ μ : x_Hp} (hK : K ≤ 512) (h : r_full K σ μ) (x1 : Int32) : f_call K (F_X8_now x1 σ) (F_X9_now x1 μ) := f_S h (fun _ _ _ _ v => q_now v x1) (kp_X9_now x1 kR.rfl')
theorem f_aunt {K : Nat} {σ μ : x_Hp} (hK : K ≤ 512) (h : r_full K σ μ) (x1 : Int32) (x2 : Int32) : f_call K (F_X8_aunt x1 x2 σ) (F_X9_aunt x1 x2 μ) := f_S h (fun _ _ _ _ v => q_auntQ v x1 x2) (kp_X9_aunt x1 x2 kR.rfl')
theorem f_law {K : Nat} {σ μ : x_Hp} (hK : K ≤ 512) (h : r_full K σ μ) (x1 : Int32) : f_call K (F_X8_law x1 σ) (F_X9_law x1 μ) := f_S h (fun _ _ _ _ v => q_law v x1) (kp_X9_law x1 kR.rfl')
theorem f_minutes {K : Nat} {σ μ : x_Hp} (hK : K ≤ 512) (h : r_full K σ μ) (x1 : Int32) : f_call K (F_X8_minutes x1 σ) (F_X9_minutes x1 μ) := f_of h (d_minutes h.1 x1) (kp_X9_minutes x1 kR.rfl')
theorem f_hand {K : Nat} {σ μ : x_Hp} (hK : K ≤ 512) (h : r_full K σ μ) (x1 : Int32) : f_call K (F_X8_hand x1 σ) (F_X9_hand x1 μ) := f_of h (d_hand h.1 x1) (kp_X9_hand x1 kR.rfl')
theorem f_nurse {K : Nat} {σ μ : x_Hp} (hK : K ≤ 512) (h : r_full K σ μ) : f_call K (F_X8_nurse σ) (F_X9_nurse μ) := f_of h (d_nurse h.1) (kp_X9_nurse kR.rfl')
theorem f_lay {K : Nat} {σ μ : x_Hp} (hK : K ≤ 512) (h : r_full K σ μ) : f_call K (F_X8_lay σ) (F_X9_lay μ) := f_of h (d_lay h.1) (kp_X9_lay kR.rfl')
theorem f_cloth {K : Nat} {σ μ : x_Hp} (hK : K ≤ 512) (h : r_full K σ μ) (x1 : Int32) : f_call K (F_X8_cloth x1 σ) (F_X9_cloth x1 μ) := f_of h (d_cloth h.1 x1) (kp_X9_cloth x1 kR.rfl')
theorem f_mother {K : Nat} {σ μ : x_Hp} (hK : K ≤ 512) (h : r_full K σ μ) (x1 : Int32) : f_call K (F_X8_mother x1 σ) (F_X9_mother x1 μ) := f_of h (d_mother h.1 x1) (kp_X9_mother x1 kR.rfl')
theorem f_undo {K : Nat} {σ μ : x_Hp} (hK : K ≤ 512) (h : r_full K σ μ) : f_call K (F_X8_undo σ) (F_X9_undo μ) := f_of h (d_undo h.1) (kp_X9_undo kR.rfl')
theorem f_crying {K : Nat} {σ μ : x_Hp} (hK : K ≤ 512) (h : r_full K σ μ) (x1 : Int32) : f_call K (F_X8_crying x1 σ) (F_X9_crying x1 μ) := f_S h (fun _ _ _ _ v => q_crying v x1) (kp_X9_crying x1 kR.rfl')
theorem f_next {K : Nat} {σ μ : x_Hp} (hK : K ≤ 512) (h : r_full K σ μ) (x1 : Int32) (x2 : Int32) : f_call K (F_X8_next x1 x2 σ) (F_X9_next x1 x2 μ) := f_S h (fun _ _ _ _ v => q_next v x1 x2) (kp_X9_next x1 x2 kR.rfl')
theorem f_order {K : Nat} {σ μ : x_Hp} (hK : K ≤ 512) (h : r_full K σ μ) (x1 : Int32) : f_call K (F_X8_order x1 σ) (F_X9_order x1 μ) := f_of h (q_SO.call h.1 (fun _ _ _ _ _ v hO h3 hc => q_order v hO (by omega) (by omega) h3 x1)) (kp_X9_order x1 kR.rfl')
theorem f_orderAt {K : Nat} {σ μ : x_Hp} (hK : K ≤ 512) (h : r_full K σ μ) (x1 : Int32) (x2 : Int32) : f_call K (F_X8_orderAt x1 x2 σ) (F_X9_orderAt x1 x2 μ) := f_of h (q_SO.call h.1 (fun _ _ _ _ _ v hO h3 hc => q_orderAt v hO (by omega) (by omega) h3 x1 x2)) (kp_X9_orderAt x1 x2 kR.rfl')
theorem f_sitters {K : Nat} {σ μ : x_Hp} (hK : K ≤ 512) (h : r_full K σ μ) (x1 : Int32) : f_call K (F_X8_sitters x1 σ) (F_X9_sitters x1 μ) := f_of h (q_SO.call h.1 (fun _ _ _ _ _ v hO h3 hc => q_sitters v hO (by omega) (by omega) h3 x1)) (kp_X9_sitters x1 kR.rfl')
theorem f_luck {K : Nat} {σ μ : x_Hp} (hK : K ≤ 512) (h : r_full K σ μ) (x1 : Int32) (x2 : Int32) : f_call K (F_X8_luck x1 x2 σ) (F_X9_luck x1 x2 μ) := f_of h (q_SO.call h.1 (fun _ _ _ _ _ v hO h3 hc => q_luck v hO (by omega) (by omega) h3 x1 x2)) (kp_X9_luck x1 x2 kR.rfl')
theorem f_wants {K : Nat} {σ μ : x_Hp} (hK : K ≤ 512) (h : r_full K σ μ) (x1 : Int32) (x2 : Int32) : f_call K (F_X8_wants x1 x2 σ) (F_X9_wants x1 x2 μ) := f_S h (fun _ _ _ _ v => q_wants v x1 x2) (kp_X9_wants x1 x2 kR.rfl')
theorem f_moment {K : Nat} {σ μ : x_Hp} (hK : K ≤ 512) (h : r_full K σ μ) (x1 : Int32) : f_call K (F_X8_moment x1 σ) (F_X9_moment x1 μ) := f_S h (fun _ _ _ _ v => q_moment v x1) (kp_X9_moment x1 kR.rfl')
theorem f_beat {K : Nat} {σ μ : x_Hp} (hK : K ≤ 512) (h : r_full K σ μ) (x1 : Int32) (x2 : Int32) (x3 : Int32) : f_call K (F_X8_beat x1 x2 x3 σ) (F_X9_beat x1 x2 x3 μ) := f_S h (fun _ _ _ _ v => q_beat v x1 x2 x3) (kp_X9_beat x1 x2 x3 kR.rfl')
theorem f_round {K : Nat} {σ μ : x_Hp} (hK : K ≤ 512) (h : r_full K σ μ) (x1 : Int32) (x2 : Int32) (x3 : Int32) (x4 : Int32) : f_call K (F_X8_round x1 x2 x3 x4 σ) (F_X9_round x1 x2 x3 x4 μ) := f_S h (fun _ _ _ _ v => q_round v x1 x2 x3 x4) (kp_X9_round x1 x2 x3 x4 kR.rfl')
theorem f_fairest {K : Nat} {σ μ : x_Hp} (hK : K ≤ 512) (h : r_full K σ μ) (x1 : Int32) (x2 : Int32) : f_call K (F_X8_fairest x1 x2 σ) (F_X9_fairest x1 x2 μ) := f_of h (q_SO.call h.1 (fun _ _ _ _ _ v hO h3 hc => q_fairest v hO (by omega) (by omega) h3 x1 x2)) (kp_X9_fairest x1 x2 kR.rfl')
theorem f_leftOut {K : Nat} {σ μ : x_Hp} (hK : K ≤ 512) (h : r_full K σ μ) (x1 : Int32) (x2 : Int32) : f_call K (F_X8_leftOut x1 x2 σ) (F_X9_leftOut x1 x2 μ) := f_S h (fun _ _ _ _ v => q_leftOut v x1 x2) (kp_X9_leftOut x1 x2 kR.rfl')
theorem f_bestRound {K : Nat} {σ μ : x_Hp} (hK : K ≤ 512) (h : r_full K σ μ) (x1 : Int32) (x2 : Int32) : f_call K (F_X8_bestRound x1 x2 σ) (F_X9_bestRound x1 x2 μ) := f_S h (fun _ _ _ _ v => q_bestRound v x1 x2) (kp_X9_bestRound x1 x2 kR.rfl')
theorem f_feedAt {K : Nat} {σ μ : x_Hp} (hK : K ≤ 512) (h : r_full K σ μ) (x1 : Int32) (x2 : Int32) : f_call K (F_X8_feedAt x1 x2 σ) (F_X9_feedAt x1 x2 μ) := f_S h (fun _ _ _ _ v => q_feedAt v x1 x2) (kp_X9_feedAt x1 x2 kR.rfl')
theorem f_inSight {K : Nat} {σ μ : x_Hp} (hK : K ≤ 512) (h : r_full K σ μ) (x1 : Int32) (x2 : Int32) : f_call K (F_X8_inSight x1 x2 σ) (F_X9_inSight x1 x2 μ) := f_S h (fun _ _ _ _ v => q_inSight v x1 x2) (kp_X9_inSight x1 x2 kR.rfl')
theorem f_peak {K : Nat} {σ μ : x_Hp} (hK : K ≤ 512) (h : r_full K σ μ) (x1 : Int32) (x2 : Int32) : f_call K (F_X8_peak x1 x2 σ) (F_X9_peak x1 x2 μ) := f_S h (fun _ _ _ _ v => q_peak v x1 x2) (kp_X9_peak x1 x2 kR.rfl')
theorem f_merry {K : Nat} {σ μ : x_Hp} (hK : K ≤ 512) (h : r_full K σ μ) : f_call K (F_X8_merry σ) (F_X9_merry μ) := f_S h (fun _ _ _ _ v => q_merry v) (kp_X9_merry kR.rfl')
theorem f_rests {K : Nat} {σ μ : x_Hp} (hK : K ≤ 512) (h : r_full K σ μ) (x1 : Int32) (x2 : Int32) : f_call K (F_X8_rests x1 x2 σ) (F_X9_rests x1 x2 μ) := f_S h (fun _ _ _ _ v => q_rests v x1 x2) (kp_X9_rests x1 x2 kR.rfl')
theorem f_silk {K : Nat} {σ μ : x_Hp} (hK : K ≤ 512) (h : r_full K σ μ) (x1 : Int32) (x2 : Int32) : f_call K (F_X8_silk x1 x2 σ) (F_X9_silk x1 x2 μ) := f_S h (fun _ _ _ _ v => q_silk v x1 x2) (kp_X9_silk x1 x2 kR.rfl')
theorem f_likes {K : Nat} {σ μ : x_Hp} (hK : K ≤ 512) (h : r_full K σ μ) (x1 : Int32) (x2 : Int32) : f_call K (F_X8_likes x1 x2 σ) (F_X9_likes x1 x2 μ) := f_S h (fun _ _ _ _ v => q_likes v (by omega) x1 x2) (kp_X9_likes x1 x2 kR.rfl')
theorem f_sleeps {K : Nat} {σ μ : x_Hp} (hK : K ≤ 512) (h : r_full K σ μ) : f_call K (F_X8_sleeps σ) (F_X9_sleeps μ) := f_S h (fun _ _ _ _ v => q_sleeps v) (kp_X9_sleeps kR.rfl')
theorem f_tell {K : Nat} {σ μ : x_Hp} (hK : K ≤ 512) (h : r_full K σ μ) (x1 : Int32) (x2 : Int32) : f_call K (F_X8_tell x1 x2 σ) (F_X9_tell x1 x2 μ) := f_of h (d_tell h.1 x1 x2) (kp_X9_tell x1 x2 kR.rfl')
theorem f_forget {K : Nat} {σ μ : x_Hp} (hK : K ≤ 512) (h : r_full K σ μ) : f_call K (F_X8_forget σ) (F_X9_forget μ) := f_of h (d_forget h.1) (kp_X9_forget kR.rfl')
theorem f_fed {K : Nat} {σ μ : x_Hp} (hK : K ≤ 512) (h : r_full K σ μ) (x1 : Int32) (x2 : Int32) : f_call K (F_X8_fed x1 x2 σ) (F_X9_fed x1 x2 μ) := by
  obtain ⟨T, lv, N, v, ch, h1, -, -, -, h5, -⟩ := id h.1
  exact f_of h (q_S.call h.1 (q_fed h1 h5 x1 x2)) (kp_X9_fed x1 x2 kR.rfl')
theorem f_hold {K : Nat} {σ μ : x_Hp} (hK : K ≤ 512) (h : r_full K σ μ) (x1 : Int32) : f_call K (F_X8_hold x1 σ) (F_X9_hold x1 μ) := f_of h (d_hold h.1 x1) (kp_X9_hold x1 kR.rfl')
theorem f_restore {K : Nat} {σ μ : x_Hp} (hK : K ≤ 512) (h : r_full K σ μ) (x1 : Int32) : f_call K (F_X8_restore x1 σ) (F_X9_restore x1 μ) := f_of h (d_restore h.1 x1) (kp_X9_restore x1 kR.rfl')
theorem f_count {K : Nat} {σ μ : x_Hp} (hK : K ≤ 512) (h : r_full K σ μ) (x1 : Int32) : f_call K (F_X8_count x1 σ) (F_X9_count x1 μ) := f_of h (d_count h.1 x1) (kp_X9_count x1 kR.rfl')
theorem f_read {K : Nat} {σ μ : x_Hp} (hK : K ≤ 512) (h : r_full K σ μ) : f_call K (F_X8_read σ) (F_X9_read μ) := d_read h
