/-! THE LAW'S START: statics, the text, the tables -/
def zl_Z (b0 : Nat) (U : State) : Prop := (∀ w ∈ lw_tbl, x_isNest w = true → va_Nw w U) ∧ st_Z (zw_A b0) U ∧ va_AO "BabyRound$State" U
theorem zl_warm {w : Cond} (h : x_isNest w = true) {s U : State} (hW : s.WarmedH U.vm) (hZ : va_Nw w s) : va_Nw w U := by
  cases w <;> first | exact va_Nw.warmM hW hZ | (exact absurd h (by simp [x_isNest]))
theorem zl_nest {w : Cond} (h : x_isNest w = true) {A : Array Value} {U : State} (hb : w.before A U = true) : va_Nw w U := by
  cases w <;> first | exact va_Nw.of rfl hb | (exact absurd h (by simp [x_isNest]))
theorem zl_ok {b0 b1 : Nat} (hb : b0 ≤ b1) : zw_OK b1 (zl_Z b0) := by
  refine ⟨fun s U hZ hW hsz hq => ?_, fun U hU => hU.1, fun U hU => hU.2.1.narrow (fun q h => Nat.le_trans hb h), fun U hU => hU.2.2⟩
  obtain ⟨h1, ⟨⟨a1, z1, t1⟩, ⟨a2, z2, t2⟩, z3, z4, adK, adV, k1, k2⟩, h3⟩ := hZ
  have hk : ∀ a : Nat, a < s.heap.size → ¬ zw_A b0 a → U.heap[a]? = s.heap[a]? := fun a ha hn => hq a ha (by have : a < b0 := Nat.not_le.mp hn; omega)
  have ma := hW.alike
  exact ⟨fun w hw hn => zl_warm hn hW (h1 w hw hn), ⟨⟨a1, (va_Z.moved ma z1).kept hk, (va_T.moved ma t1).kept hk⟩, ⟨a2, (va_Z.moved ma z2).kept hk, (va_T.moved ma t2).kept hk⟩, (va_Z.moved ma z3).kept hk, (va_Zq.moved ma z4).kept hk, adK, adV, (vk_S.moved ma k1).kept hk, vk_R.warm hW k2⟩, va_AO.moved ma h3⟩
def zl_fl : List Cond := flatC (Jvm.Cond.and given_1 narrow_1)
theorem zl_f1 : (List.range 7).map (fun j => Cond.eq (.elem (.static "BabyRound$Laws" "LEAST_TOLD" "[I") (.int (Int32.ofNat j))) (.int (st_least.getD j 0))) = (zl_fl.drop 12).take 7 := by decide +kernel
theorem zl_f2 : (List.range 7).map (fun j => Cond.eq (.elem (.static "BabyRound$Laws" "MOST_TOLD_BY" "[I") (.int (Int32.ofNat j))) (.int (st_most.getD j 0))) = (zl_fl.drop 22).take 7 := by decide +kernel
theorem zl_f3 : (List.range 200).map (fun j => Cond.eq (.elem (.field (.string "BabyRound$Reader" 117) "java/lang/String" "value" "[B") (.int (Int32.ofNat j))) (.int (st_byt.getD j 0))) = (zl_fl.drop 33).take 200 := by decide +kernel
theorem zl_txt {args : Array Value} {s : State} {A : Nat → Prop} {B : List Int32} {N : Nat} (hN : N < 2 ^ 31) (h1 : (Cond.exactly (.string "BabyRound$Reader" 117) "java/lang/String").before args s = true) (h2 : (Cond.eq (.field (.string "BabyRound$Reader" 117) "java/lang/String" "coder" "B") (.int 0)).before args s = true) (h3 : (Cond.arrayOf (.field (.string "BabyRound$Reader" 117) "java/lang/String" "value" "[B") .byte).before args s = true) (h4 : (Cond.eq (.length (.field (.string "BabyRound$Reader" 117) "java/lang/String" "value" "[B")) (.int (Int32.ofNat N))).before args s = true) (h5 : ∀ j : Nat, j < N → (Cond.eq (.elem (.field (.string "BabyRound$Reader" 117) "java/lang/String" "value" "[B") (.int (Int32.ofNat j))) (.int (B.getD j 0))).before args s = true) (hA : ∀ a : Nat, a < s.heap.size → ¬ A a) : ∃ adK adV : Nat → Nat, vk_S 1 [N] [B] adK adV A s s.heap ∧ (Term.string "BabyRound$Reader" 117).eval args s none [] s = some (.ref (adK 0)) := by
  have z : ∀ i : Nat, i < 1 → i = 0 := fun i hi => by omega
  obtain ⟨adK, adV, k1, k2⟩ := vk_Sof (args := args) (s := s) (N := 1) (tm := fun _ => (.string "BabyRound$Reader" 117)) (len := [N]) (byt := [B]) (A := A) (fun i hi => by rw [z i hi]; exact hN) (fun i hi => h1) (fun i hi => h2) (fun i hi => h3) (fun i hi => by rw [z i hi]; exact h4) (fun i hi j hj => by rw [z i hi] at hj ⊢; exact h5 j hj) (fun i j hi hj hij => absurd ((z i hi).trans (z j hj).symm) hij) hA
  exact ⟨adK, adV, k1, k2 0 (by decide)⟩
theorem zl_at {s : State} {b : Nat} (hts : ∀ w ∈ lw_tbl, w.before #[Value.ref b] s = true) (hgv : (Jvm.Cond.and given_1 narrow_1).before #[Value.ref b] s = true) : zl_Z s.heap.size s := by
  have hs := flat_of_before _ hgv
  have hs : ∀ w ∈ zl_fl, w.before #[Value.ref b] s = true := hs
  have hA : ∀ a : Nat, a < s.heap.size → ¬ zw_A s.heap.size a := fun a h q => absurd h (Nat.not_lt.mpr q)
  have at' : ∀ (i : Nat) (w : Cond), zl_fl[i]? = some w → w.before #[Value.ref b] s = true := fun i w h => hs w (List.mem_of_getElem? h)
  have lt' : ∀ (i : Nat) (w : Cond), lw_tbl[i]? = some w → w.before #[Value.ref b] s = true := fun i w h => hts w (List.mem_of_getElem? h)
  obtain ⟨a1, e1, t1⟩ := va_Tof (s := s) (tm := .static "BabyRound$Laws" "LEAST_TOLD" "[I") (ty := .int) (N := 7) (f := fun j => .int (st_least.getD j 0)) (A := zw_A s.heap.size) (by decide) (at' 10 _ (by decide +kernel)) (va_eqt (at' 11 (Cond.eq (.length (.static "BabyRound$Laws" "LEAST_TOLD" "[I")) (.int (Int32.ofNat 7))) (by decide +kernel))) (fun j hj => va_eqt (hs _ (va_run zl_f1 j hj))) hA
  obtain ⟨a2, e2, t2⟩ := va_Tof (s := s) (tm := .static "BabyRound$Laws" "MOST_TOLD_BY" "[I") (ty := .int) (N := 7) (f := fun j => .int (st_most.getD j 0)) (A := zw_A s.heap.size) (by decide) (at' 20 _ (by decide +kernel)) (va_eqt (at' 21 (Cond.eq (.length (.static "BabyRound$Laws" "MOST_TOLD_BY" "[I")) (.int (Int32.ofNat 7))) (by decide +kernel))) (fun j hj => va_eqt (hs _ (va_run zl_f2 j hj))) hA
  have h5 : ∀ j : Nat, j < 200 → (Cond.eq (.elem (.field (.string "BabyRound$Reader" 117) "java/lang/String" "value" "[B") (.int (Int32.ofNat j))) (.int (st_byt.getD j 0))).before #[Value.ref b] s = true := fun j hj => hs _ (va_run zl_f3 j hj)
  obtain ⟨adK, adV, k1, k2⟩ := zl_txt (args := #[Value.ref b]) (s := s) (A := zw_A s.heap.size) (B := st_byt) (N := 200) (by decide) (at' 29 (Cond.exactly (.string "BabyRound$Reader" 117) "java/lang/String") (by decide +kernel)) (at' 30 (Cond.eq (.field (.string "BabyRound$Reader" 117) "java/lang/String" "coder" "B") (.int 0)) (by decide +kernel)) (at' 31 (Cond.arrayOf (.field (.string "BabyRound$Reader" 117) "java/lang/String" "value" "[B") .byte) (by decide +kernel)) (at' 32 (Cond.eq (.length (.field (.string "BabyRound$Reader" 117) "java/lang/String" "value" "[B")) (.int (Int32.ofNat 200))) (by decide +kernel)) h5 hA
  refine ⟨fun w hw hn => zl_nest hn (hts w hw), ⟨⟨a1, va_Zof (lt' 865 _ (by decide +kernel)) (lt' 104 _ (by decide +kernel)) e1 hA, t1⟩, ⟨a2, va_Zof (lt' 867 _ (by decide +kernel)) (lt' 104 _ (by decide +kernel)) e2 hA, t2⟩, va_Zof (lt' 663 _ (by decide +kernel)) (lt' 112 _ (by decide +kernel)) (va_eqt (at' 4 (Cond.eq (.static "java/lang/String" "COMPACT_STRINGS" "Z") (.int 1)) (by decide +kernel))) hA, va_Zqof (lt' 679 _ (by decide +kernel)) (lt' 114 _ (by decide +kernel)) (at' 5 _ (by decide +kernel)) hA, adK, adV, k1, ?_⟩, va_AO.of (lt' 416 _ (by decide +kernel))⟩
  exact vk_R.of (lt' 653 (Cond.stringRef "BabyRound$Reader" 117 st_text) (by decide +kernel)) k2
theorem zl_cls {s : State} {args : Array Value} (hts : ∀ w ∈ x_tbl, w.before args s = true) : ∀ k : Nat, ∃ q : ClassId × (Nat → Nat), ∀ r : vw_C, vwCl[k]? = some r → u_Kn s r.1 r.2.1 r.2.2 q.1 q.2 := by
  intro k
  match k with
  | 0 =>
    obtain ⟨c, f, h⟩ := u_known (C := RX0) (T := TX0) (N := 1) (n := 1) hts x_in0 (hts _ (x_tb (i := 289) (by decide +kernel) rfl))
    exact ⟨(c, f), fun r hr => by cases hr; exact h⟩
  | 1 =>
    obtain ⟨c, f, h⟩ := u_known (C := RX1) (T := TX1) (N := 8) (n := 8) hts x_in1 (hts _ (x_tb (i := 132) (by decide +kernel) rfl))
    exact ⟨(c, f), fun r hr => by cases hr; exact h⟩
  | 2 =>
    obtain ⟨c, f, h⟩ := u_known (C := RX2) (T := TX2) (N := 3) (n := 3) hts x_in2 (hts _ (x_tb (i := 442) (by decide +kernel) rfl))
    exact ⟨(c, f), fun r hr => by cases hr; exact h⟩
  | 3 =>
    obtain ⟨c, f, h⟩ := u_known (C := RX3) (T := TX3) (N := 12) (n := 12) hts x_in3 (hts _ (x_tb (i := 434) (by decide +kernel) rfl))
    exact ⟨(c, f), fun r hr => by cases hr; exact h⟩
  | 4 =>
    obtain ⟨c, f, h⟩ := u_known (C := RX4) (T := TX4) (N := 13) (n := 13) hts x_in4 (hts _ (x_tb (i := 237) (by decide +kernel) rfl))
    exact ⟨(c, f), fun r hr => by cases hr; exact h⟩
  | 5 =>
    obtain ⟨c, f, h⟩ := u_known (C := RX5) (T := TX5) (N := 21) (n := 21) hts x_in5 (hts _ (x_tb (i := 300) (by decide +kernel) rfl))
    exact ⟨(c, f), fun r hr => by cases hr; exact h⟩
  | 6 =>
    obtain ⟨c, f, h⟩ := u_known (C := RX6) (T := TX6) (N := 15) (n := 15) hts x_in6 (hts _ (x_tb (i := 126) (by decide +kernel) rfl))
    exact ⟨(c, f), fun r hr => by cases hr; exact h⟩
  | 7 =>
    obtain ⟨c, f, h⟩ := u_known (C := RX7) (T := TX7) (N := 4) (n := 4) hts x_in7 (hts _ (x_tb (i := 410) (by decide +kernel) rfl))
    exact ⟨(c, f), fun r hr => by cases hr; exact h⟩
  | 8 =>
    obtain ⟨c, f, h⟩ := u_known (C := RX8) (T := TX8) (N := 14) (n := 14) hts x_in8 (hts _ (x_tb (i := 118) (by decide +kernel) rfl))
    exact ⟨(c, f), fun r hr => by cases hr; exact h⟩
  | 9 =>
    obtain ⟨c, f, h⟩ := u_known (C := RX9) (T := TX9) (N := 73) (n := 73) hts x_in9 (hts _ (x_tb (i := 1181) (by decide +kernel) rfl))
    exact ⟨(c, f), fun r hr => by cases hr; exact h⟩
  | k + 10 =>
    obtain ⟨c, f, -⟩ := u_known (C := RX0) (T := TX0) (N := 1) (n := 1) hts x_in0 (hts _ (x_tb (i := 289) (by decide +kernel) rfl))
    exact ⟨(c, f), fun r hr => by simp [vwCl] at hr⟩
theorem zl_arr {s : State} {args : Array Value} {ty : FieldType} (h : (Cond.arrayClass ty).before args s = true) : ∃ c : ClassId, ArrOfT s c ty ∧ s.vm.findClass ("[" ++ ty.toString) = some c := by
  obtain ⟨c, kA, comp, h1, h2, h3⟩ := Cond.arrayClass_spec (args := args) (first := s) (o := none) (s := s) (idx := []) h
  exact ⟨c, fun n z => ⟨fun k h => (by cases h), kA, h2, comp, h3⟩, h1⟩
theorem zl_arq {s : State} (h : va_AO "BabyRound$State" s) : ∃ c : ClassId, ArrOfT s c (.object "BabyRound$State") ∧ va_RA s c (.object "BabyRound$State") := by
  obtain ⟨comp, c, kA, f2, -, h2, h3, h1⟩ := Cond.arrayOver_spec (args := #[]) (first := s) (o := none) (s := s) (idx := []) (n := "BabyRound$State") h
  exact ⟨c, fun n z => ⟨fun k h => (by cases h), kA, h2, comp, h3⟩, kA, comp, h2, h3, f2, h1⟩
theorem zl_K {s : State} {args : Array Value} (hts : ∀ w ∈ x_tbl, w.before args s = true) (hq : va_AO "BabyRound$State" s) : ∃ (D : va_G) (iC : Nat → ClassId), va_K D vwCl (zw_ty iC) s := by
  obtain ⟨f, hf⟩ := Classical.axiomOfChoice (zl_cls hts)
  obtain ⟨c0, a0, b0⟩ := zl_arr (ty := .byte) (hts _ (x_tb (i := 818) (by decide +kernel) rfl))
  obtain ⟨c1, a1, b1⟩ := zl_arr (ty := .char) (hts _ (x_tb (i := 287) (by decide +kernel) rfl))
  obtain ⟨c2, a2, b2⟩ := zl_arr (ty := .int) (hts _ (x_tb (i := 163) (by decide +kernel) rfl))
  obtain ⟨c3, a3, b3⟩ := zl_arr (ty := .long) (hts _ (x_tb (i := 162) (by decide +kernel) rfl))
  obtain ⟨c4, a4, b4⟩ := zl_arr (ty := .boolean) (hts _ (x_tb (i := 1428) (by decide +kernel) rfl))
  obtain ⟨c5, a5, b5⟩ := zl_arq hq
  refine ⟨(fun k => (f k).1, fun k => (f k).2), fun k => [c0, c1, c2, c3, c4, c5].getD k c0, fun k r hr => hf k r hr, fun k q h => ?_⟩
  match k, h with
  | 0, h => cases h; exact ⟨a0, b0⟩
  | 1, h => cases h; exact ⟨a1, b1⟩
  | 2, h => cases h; exact ⟨a2, b2⟩
  | 3, h => cases h; exact ⟨a3, b3⟩
  | 4, h => cases h; exact ⟨a4, b4⟩
  | 5, h => cases h; exact ⟨a5, b5⟩
  | k + 6, h => simp at h
