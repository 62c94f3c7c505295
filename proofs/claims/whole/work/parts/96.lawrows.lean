/-! THE LAW'S ROWS: both worlds in one heap -/
def wl_C (p : Program) (s : State) (m : MethodId) (meth : Method) (c : Code) (b L : Nat) (xs : Nat → Int32) (D : va_G) (iC : Nat → ClassId) (ad1 ad2 : Nat → Nat) : Prop :=
  lw_At p s m meth c b L xs ∧ L ≤ 3072 ∧ va_K D vwCl (zw_ty iC) s ∧ x_OK TX (D, iC, ad1, zl_Z s.heap.size) ∧ x_OK TM (D, iC, ad2, zl_Z s.heap.size) ∧ (∀ q, x_A TX (D, iC, ad1, zl_Z s.heap.size) q → s.heap.size ≤ q) ∧ (∀ q, x_A TM (D, iC, ad2, zl_Z s.heap.size) q → s.heap.size ≤ q) ∧ (∀ i j, i < TX.1 → j < TM.1 → ad1 i ≠ ad2 j) ∧ zl_Z s.heap.size s
def wl_W (p : Program) (l : Launch) (e : Env) (s : State) (m : MethodId) (below : List Frame) (meth : Method) (c : Code) (b : Nat) (D : va_G) (iC : Nat → ClassId) (ad1 ad2 : Nat → Nat) (mc ms i pc : Nat) (st : List Value) (σ μ : x_Hp) : Prop :=
  ∀ (H : Heap) (locs : List Loc) (ls : Array Slot), lv_has ls 4 [(3, .int (nI i)), (2, .ref (ad2 0)), (1, .ref (ad1 0)), (0, .ref b)] → x_PW TX (D, iC, ad1, zl_Z s.heap.size) σ H → x_PW TM (D, iC, ad2, zl_Z s.heap.size) μ H → va_S (zw_A s.heap.size) s.heap H locs → W p l e room_1 s m #[Value.ref b] below meth c H locs mc ms (lw_Z below #[Value.ref b] s) (F0 m pc ls st)
def zB (x : Int32) : Int32 := if x = 0 then 0 else 1
section WL
variable {p : Program} {l : Launch} {e : Env} {s : State} {m : MethodId} {below : List Frame} {meth : Method} {c : Code} {b L : Nat} {xs : Nat → Int32} {D : va_G} {iC : Nat → ClassId} {ad1 ad2 : Nat → Nat} {mc ms i pc : Nat} {st : List Value} {σ μ : x_Hp}
theorem wl_x (C : wl_C p s m meth c b L xs D iC ad1 ad2) (d : decode code pc = .ok (.aload_n 1, 1)) (k : wl_W p l e s m below meth c b D iC ad1 ad2 mc ms i (pc + 1) (.ref (ad1 0) :: st) σ μ) : wl_W p l e s m below meth c b D iC ad1 ad2 mc ms i pc st σ μ :=
  fun H locs ls hl hP hM hS => lv_aload_n C.1.1 C.1.2.1 d rfl (lv_at hl 2 rfl) (k H locs ls hl hP hM hS)
theorem wl_m (C : wl_C p s m meth c b L xs D iC ad1 ad2) (d : decode code pc = .ok (.aload_n 2, 1)) (k : wl_W p l e s m below meth c b D iC ad1 ad2 mc ms i (pc + 1) (.ref (ad2 0) :: st) σ μ) : wl_W p l e s m below meth c b D iC ad1 ad2 mc ms i pc st σ μ :=
  fun H locs ls hl hP hM hS => lv_aload_n C.1.1 C.1.2.1 d rfl (lv_at hl 1 rfl) (k H locs ls hl hP hM hS)
theorem wl_arg (C : wl_C p s m meth c b L xs D iC ad1 ad2) {k : Nat} {v : Int} (d0 : decode code pc = .ok (.aload_n 0, 1)) (d1 : decode code (pc + 1) = .ok (.iload_n 3, 1)) (d2 : decode code (pc + 1 + 1) = .ok (.iconst v, 1)) (hv : Int32.ofInt v = nI k) (d3 : decode code (pc + 1 + 1 + 1) = .ok (.iadd, 1)) (d4 : decode code (pc + 1 + 1 + 1 + 1) = .ok (.iaload, 1)) (hi : i + k < L) (kk : wl_W p l e s m below meth c b D iC ad1 ad2 mc ms i (pc + 1 + 1 + 1 + 1 + 1) (.int (xs (i + k)) :: st) σ μ) : wl_W p l e s m below meth c b D iC ad1 ad2 mc ms i pc st σ μ := by
  intro H locs ls hl hP hM hS
  obtain ⟨⟨hx, hb, hr, hml, hown, hts, hX, hbl, hlocks, hgv⟩, hL, -⟩ := C
  refine lv_aload_n hx hb d0 rfl (lv_at hl 3 rfl) ?_
  refine lv_iload_n hx hb d1 rfl (lv_at hl 0 rfl) ?_
  refine lv_iconst (v := nI k) hx hb d2 hv ?_
  refine lv_iadd hx hb d3 ?_
  rw [nI_add]
  refine va_sld hx hb hX hbl (Nat.not_le.mpr hbl) hS (vp_in_nI hi (by omega)) d4 ?_
  rw [nI_clamp (by omega)]
  exact kk H locs ls hl hP hM hS
theorem wl_op (C : wl_C p s m meth c b L xs D iC ad1 ad2) (d0 : decode code pc = .ok (.aload_n 0, 1)) (d1 : decode code (pc + 1) = .ok (.iload_n 3, 1)) (d2 : decode code (pc + 1 + 1) = .ok (.iaload, 1)) (hi : i < L) (kk : wl_W p l e s m below meth c b D iC ad1 ad2 mc ms i (pc + 1 + 1 + 1) (.int (xs i) :: st) σ μ) : wl_W p l e s m below meth c b D iC ad1 ad2 mc ms i pc st σ μ := by
  intro H locs ls hl hP hM hS
  obtain ⟨⟨hx, hb, hr, hml, hown, hts, hX, hbl, hlocks, hgv⟩, hL, -⟩ := C
  refine lv_aload_n hx hb d0 rfl (lv_at hl 3 rfl) ?_
  refine lv_iload_n hx hb d1 rfl (lv_at hl 0 rfl) ?_
  refine va_sld hx hb hX hbl (Nat.not_le.mpr hbl) hS (vp_in_nI hi (by omega)) d2 ?_
  rw [nI_clamp (by omega)]
  exact kk H locs ls hl hP hM hS
theorem wl_bool (C : wl_C p s m meth c b L xs D iC ad1 ad2) {x : Int32} {o1 o2 : Int} (t1 t2 : Nat) (d0 : decode code pc = .ok (.ifCond .eq o1, 3)) (h1 : (pc : Int) + o1 = (t1 : Int)) (d1 : decode code (pc + 3) = .ok (.iconst 1, 1)) (d2 : decode code (pc + 3 + 1) = .ok (.goto o2, 3)) (h2 : ((pc + 3 + 1 : Nat) : Int) + o2 = (t2 : Int)) (d3 : decode code t1 = .ok (.iconst 0, 1)) (h3 : t1 + 1 = t2) (kk : wl_W p l e s m below meth c b D iC ad1 ad2 mc ms i t2 (.int (zB x) :: st) σ μ) : wl_W p l e s m below meth c b D iC ad1 ad2 mc ms i pc (.int x :: st) σ μ := by
  intro H locs ls hl hP hM hS
  obtain ⟨⟨hx, hb, -⟩, -⟩ := id C
  refine lv_if_eq (tgt := t1) hx hb d0 h1 (fun z => ?_) (fun z => ?_)
  · refine lv_iconst (v := 0) hx hb d3 (by decide) ?_
    rw [h3]
    have := kk H locs ls hl hP hM hS
    rw [zB, if_pos z] at this
    exact this
  · refine lv_iconst (v := 1) hx hb d1 (by decide) ?_
    refine lv_goto (tgt := t2) hx hb d2 h2 ?_
    have := kk H locs ls hl hP hM hS
    rw [zB, if_neg z] at this
    exact this
theorem wl_eq (C : wl_C p s m meth c b L xs D iC ad1 ad2) {x : Int32} {off : Int} (tgt : Nat) (d : decode code pc = .ok (.if_icmp .eq off, 3)) (ht : (pc : Int) + off = (tgt : Int)) (kk : wl_W p l e s m below meth c b D iC ad1 ad2 mc ms i tgt st σ μ) : wl_W p l e s m below meth c b D iC ad1 ad2 mc ms i pc (.int x :: .int x :: st) σ μ :=
  fun H locs ls hl hP hM hS => lv_icmp_eq C.1.1 C.1.2.1 d ht (fun _ => kk H locs ls hl hP hM hS) (fun q => absurd rfl q)
theorem wl_run {T : x_Tb} {G : x_G} {H : Heap} {locs : List Loc} {ls : Array Slot} {st0 : List Value} {a : Array Value} {rv : Option Value} {τ : x_Hp} {args : Array Value} {R : Room} {Q : State → Prop} (hA : ∀ q, x_A T G q → s.heap.size ≤ q) (hr : va_Run p l e R s m args below meth c H locs mc ms 0 0 (F0 m pc ls st0) st (x_Q T G rv τ a) (x_A T G)) (hS : va_S (zw_A s.heap.size) s.heap H locs)
    (kk : ∀ (H1 : Heap) (locs1 : List Loc), x_PW T G τ H1 → (∀ q, q < H.size → ¬ x_A T G q → H1[q]? = H[q]?) → va_S (zw_A s.heap.size) s.heap H1 locs1 → W p l e R s m args below meth c H1 locs1 mc ms Q (F0 m (pc + 3) ls (rv.toList ++ st))) : W p l e R s m args below meth c H locs mc ms Q (F0 m pc ls st0) := by
  intro U hU X
  obtain ⟨v, st₀, t, U2, L, h0, X', hL, e1, e2, ⟨hv, hp, hz, hk⟩, stp⟩ := hr U hU X
  cases hv
  rw [h0] at hz hk
  obtain ⟨t2, a1, b1⟩ := kk U2.heap (locs ++ L) (by rw [e1]; exact hp) (fun q h1 h2 => by rw [e1]; exact hk q h1 h2)
    ⟨Nat.le_trans hS.1 (by rw [e1]; exact hz), fun q h1 h2 => by rw [e1, hk q (Nat.lt_of_lt_of_le h1 hS.1) (fun z => h2 (hA q z))]; exact hS.2.1 q h1 h2, fun q hq => by
      rcases List.mem_append.mp hq with h | h
      · exact hS.2.2 q h
      · exact hA _ (hL q h)⟩ U2 rfl X'
  exact ⟨t2, stp t2 a1, b1⟩
/-- the other world stays -/
theorem wl_keep {T T2 : x_Tb} {G G2 : x_G} {ν : x_Hp} {H H1 : Heap} (h : x_PW T2 G2 ν H) (hd : ∀ j, j < T2.1 → ¬ x_A T G (x_ad G2 j)) (hk : ∀ q, q < H.size → ¬ x_A T G q → H1[q]? = H[q]?) : x_PW T2 G2 ν H1 := by
  refine va_P.kept h (fun k q hq => ?_)
  have hk' : k < T2.1 := by
    have := (List.getElem?_eq_some_iff.mp hq).1
    rwa [x_ws_len] at this
  have hlt := va_at.lt (h k q hq)
  rw [x_ws_at T2 G2 ν hk'] at hq
  cases hq
  exact hk _ hlt (hd k hk')
theorem wl_call {T : x_Tb} {ad : Nat → Nat} (C : lw_At p s m meth c b L xs) (hK : va_K D vwCl (zw_ty iC) s) (hG : x_OK T (D, iC, ad, zl_Z s.heap.size)) (hA : ∀ q, x_A T (D, iC, ad, zl_Z s.heap.size) q → s.heap.size ≤ q) (hZs : zl_Z s.heap.size s) {y : MethodName} {cb : ByteArray} {nL2 na index ci : Nat} {ret2 : Option FieldType} {rm2 : Room} {r : Int32} {τ : x_Hp} {st0 : List Value} {av : List Value} {q : vw_C} (hM : x_M l T (D, iC, ad, zl_Z s.heap.size) y cb nL2 ret2 rm2 (.ref (ad 0) :: av) σ (some (.int r)) τ) (hk : x_kd T 0 = ci) (h10 : ci < 10) (hc : vwCl[ci]? = some q) (hl : Cond.methodLink R_law index y ∈ x_tbl) (hi : Cond.instanceMethod y ∈ x_tbl) (hs : Cond.selects q.1 y y ∈ x_tbl) (hini : Cond.initialized q.1 ∈ x_tbl) (hcode : Cond.code y cb nL2 ret2 ∈ x_tbl) (hd : y.cls = q.1 ∧ y.cls ≠ "java/lang/invoke/MethodHandle" ∧ y.cls ≠ "java/lang/invoke/VarHandle" ∧ (parseMethodDescriptor y.desc).map (fun d => d.parameters.length) = some na) (hn : av.length = na) (hR : rm2.frames + 1 ≤ room_1.frames ∧ 8 + (nL2 + 11) + rm2.locals ≤ room_1.locals) (hrm : rm2.cells = 0 ∧ rm2.slots = 0) (hcs : mc ≤ 600000 ∧ ms ≤ 7302250) (hst : st0 = av.reverse ++ .ref (ad 0) :: st) (hcat : (st.map fun v => v.category).sum ≤ 8) (d : decode code pc = .ok (.invokevirtual index, 3)) {H : Heap} {locs : List Loc} {ls : Array Slot} (hls : ls.size = 4) (hP : x_PW T (D, iC, ad, zl_Z s.heap.size) σ H) (hS : va_S (zw_A s.heap.size) s.heap H locs) {Q : State → Prop}
    (kk : ∀ (H1 : Heap) (locs1 : List Loc), x_PW T (D, iC, ad, zl_Z s.heap.size) τ H1 → (∀ q, q < H.size → ¬ x_A T (D, iC, ad, zl_Z s.heap.size) q → H1[q]? = H[q]?) → va_S (zw_A s.heap.size) s.heap H1 locs1 → W p l e room_1 s m #[Value.ref b] below meth c H1 locs1 mc ms Q (F0 m (pc + 3) ls (.int r :: st))) : W p l e room_1 s m #[Value.ref b] below meth c H locs mc ms Q (F0 m pc ls st0) := by
  obtain ⟨hx, hb, hr, hml, hown, hts, hX, hbl, hlocks, hgv⟩ := C
  have hts : ∀ w ∈ x_tbl, w.before #[Value.ref b] s = true := fun w hw => hts w (List.mem_filter.mp hw).1
  have he : (x_ws T (D, iC, ad, zl_Z s.heap.size) σ)[0]? = some (ad 0, .inr (ci, x_fs ci (fun k => .ref (ad (x_rf T 0 k))) (σ.1 0))) := by rw [x_ws_at T _ σ (x_lt hG hk (by omega)), x_E_o hk h10]
  refine wl_run hA (va_runV (As := av) ⟨hx, hb, hml, hown, hts⟩ hM (cwV na hts ?_ rfl hrm.1 hrm.2 hd hR) ⟨x_blind hG _, va_recv hK hP hc he, ?_⟩ rfl hn hls hst (lv_room hcat) d ⟨hcs.1, hcs.2⟩) hS kk
  · intro w hw
    rcases List.mem_append.mp hw with h | h
    · have hm : w ∈ x_tbl := by
        simp only [List.mem_cons, List.not_mem_nil, or_false] at h
        rcases h with h | h | h | h <;> subst h <;> assumption
      exact ⟨hm, good_of_word (List.mem_filter.mp hm).2⟩
    · exact x_goodIn hcode w h
  · intro U hU hW
    exact ⟨rfl, by show x_PW T _ σ U.heap; rw [hU]; exact hP, va_K.moved hW.alike hK, (zl_ok (Nat.le_refl _)).1 s U hZs hW (by rw [hU]; exact hS.1) (fun q h1 h2 => by rw [hU]; exact hS.2.1 q h1 (Nat.not_le.mpr h2))⟩
theorem wl_callX (C : wl_C p s m meth c b L xs D iC ad1 ad2) {y : MethodName} {cb : ByteArray} {nL2 na index : Nat} {ret2 : Option FieldType} {rm2 : Room} {r : Int32} {τ : x_Hp} {st0 : List Value} {av : List Value} (hM : x_M l TX (D, iC, ad1, zl_Z s.heap.size) y cb nL2 ret2 rm2 (.ref (ad1 0) :: av) σ (some (.int r)) τ) (hl : Cond.methodLink R_law index y ∈ x_tbl) (hi : Cond.instanceMethod y ∈ x_tbl) (hs : Cond.selects RX8 y y ∈ x_tbl) (hini : Cond.initialized RX8 ∈ x_tbl) (hcode : Cond.code y cb nL2 ret2 ∈ x_tbl) (hd : y.cls = RX8 ∧ y.cls ≠ "java/lang/invoke/MethodHandle" ∧ y.cls ≠ "java/lang/invoke/VarHandle" ∧ (parseMethodDescriptor y.desc).map (fun d => d.parameters.length) = some na) (hn : av.length = na) (hR : rm2.frames + 1 ≤ room_1.frames ∧ 8 + (nL2 + 11) + rm2.locals ≤ room_1.locals) (hrm : rm2.cells = 0 ∧ rm2.slots = 0) (hcs : mc ≤ 600000 ∧ ms ≤ 7302250) (hst : st0 = av.reverse ++ .ref (ad1 0) :: st) (hcat : (st.map fun v => v.category).sum ≤ 8) (d : decode code pc = .ok (.invokevirtual index, 3)) (k : wl_W p l e s m below meth c b D iC ad1 ad2 mc ms i (pc + 3) (.int r :: st) τ μ) : wl_W p l e s m below meth c b D iC ad1 ad2 mc ms i pc st0 σ μ := by
  intro H locs ls hls hP hP2 hS
  obtain ⟨C0, hL, hK, h1, h2, hA1, hA2, hdis, hZs⟩ := C
  refine wl_call C0 hK h1 hA1 hZs hM (show x_kd TX 0 = 8 by decide +kernel) (by decide) rfl hl hi hs hini hcode hd hn hR hrm hcs hst hcat d hls.1 hP hS (fun H1 locs1 hP1 hk hS1 => k H1 locs1 ls hls hP1 (wl_keep hP2 (fun j hj q => ?_) hk) hS1)
  obtain ⟨o, ho, e⟩ := q
  exact hdis o j ho hj e.symm
theorem wl_callM (C : wl_C p s m meth c b L xs D iC ad1 ad2) {y : MethodName} {cb : ByteArray} {nL2 na index : Nat} {ret2 : Option FieldType} {rm2 : Room} {r : Int32} {τ : x_Hp} {st0 : List Value} {av : List Value} (hM : x_M l TM (D, iC, ad2, zl_Z s.heap.size) y cb nL2 ret2 rm2 (.ref (ad2 0) :: av) μ (some (.int r)) τ) (hl : Cond.methodLink R_law index y ∈ x_tbl) (hi : Cond.instanceMethod y ∈ x_tbl) (hs : Cond.selects RX9 y y ∈ x_tbl) (hini : Cond.initialized RX9 ∈ x_tbl) (hcode : Cond.code y cb nL2 ret2 ∈ x_tbl) (hd : y.cls = RX9 ∧ y.cls ≠ "java/lang/invoke/MethodHandle" ∧ y.cls ≠ "java/lang/invoke/VarHandle" ∧ (parseMethodDescriptor y.desc).map (fun d => d.parameters.length) = some na) (hn : av.length = na) (hR : rm2.frames + 1 ≤ room_1.frames ∧ 8 + (nL2 + 11) + rm2.locals ≤ room_1.locals) (hrm : rm2.cells = 0 ∧ rm2.slots = 0) (hcs : mc ≤ 600000 ∧ ms ≤ 7302250) (hst : st0 = av.reverse ++ .ref (ad2 0) :: st) (hcat : (st.map fun v => v.category).sum ≤ 8) (d : decode code pc = .ok (.invokevirtual index, 3)) (k : wl_W p l e s m below meth c b D iC ad1 ad2 mc ms i (pc + 3) (.int r :: st) σ τ) : wl_W p l e s m below meth c b D iC ad1 ad2 mc ms i pc st0 σ μ := by
  intro H locs ls hls hP hP2 hS
  obtain ⟨C0, hL, hK, h1, h2, hA1, hA2, hdis, hZs⟩ := C
  refine wl_call C0 hK h2 hA2 hZs hM (show x_kd TM 0 = 9 by decide +kernel) (by decide) rfl hl hi hs hini hcode hd hn hR hrm hcs hst hcat d hls.1 hP2 hS (fun H1 locs1 hP1 hk hS1 => k H1 locs1 ls hls (wl_keep hP (fun j hj q => ?_) hk) hP1 hS1)
  obtain ⟨o, ho, e⟩ := q
  exact hdis j o hj ho e
theorem wl_tin (C : wl_C p s m meth c b L xs D iC ad1 ad2) {dflt lo hi : Int} {offs : Array Int} {len : Nat} {x : Int32} (off : Int) (tgt : Nat) (d : decode code pc = .ok (.tableswitch dflt lo hi offs, len)) (h1 : ¬ x.toInt < lo) (h2 : ¬ hi < x.toInt) (ho : offs[(x.toInt - lo).toNat]? = some off) (ht : (pc : Int) + off = (tgt : Int)) (k : wl_W p l e s m below meth c b D iC ad1 ad2 mc ms i tgt st σ μ) : wl_W p l e s m below meth c b D iC ad1 ad2 mc ms i pc (.int x :: st) σ μ :=
  fun H locs ls hl hP hM hS => lv_tableIn C.1.1 C.1.2.1 d h1 h2 ho ht (k H locs ls hl hP hM hS)
theorem wl_tout (C : wl_C p s m meth c b L xs D iC ad1 ad2) {dflt lo hi : Int} {offs : Array Int} {len : Nat} {x : Int32} (tgt : Nat) (d : decode code pc = .ok (.tableswitch dflt lo hi offs, len)) (h : x.toInt < lo ∨ hi < x.toInt) (ht : (pc : Int) + dflt = (tgt : Int)) (k : wl_W p l e s m below meth c b D iC ad1 ad2 mc ms i tgt st σ μ) : wl_W p l e s m below meth c b D iC ad1 ad2 mc ms i pc (.int x :: st) σ μ :=
  fun H locs ls hl hP hM hS => lv_tableOut C.1.1 C.1.2.1 d h ht (k H locs ls hl hP hM hS)
theorem wl_mask (C : wl_C p s m meth c b L xs D iC ad1 ad2) {x : Int32} {v : Int} (d0 : decode code pc = .ok (.bipush v, 2)) (hv : (Int8.ofInt v).toInt32 = 63) (d1 : decode code (pc + 2) = .ok (.iand, 1)) (k : wl_W p l e s m below meth c b D iC ad1 ad2 mc ms i (pc + 2 + 1) (.int (x &&& 63) :: st) σ μ) : wl_W p l e s m below meth c b D iC ad1 ad2 mc ms i pc (.int x :: st) σ μ :=
  fun H locs ls hl hP hM hS => lv_bipush (v := 63) C.1.1 C.1.2.1 d0 hv (lv_iand C.1.1 C.1.2.1 d1 (k H locs ls hl hP hM hS))
theorem wl_inc (C : wl_C p s m meth c b L xs D iC ad1 ad2) {off : Int} (tgt : Nat) (d0 : decode code pc = .ok (.iinc 3 6, 3)) (d1 : decode code (pc + 3) = .ok (.goto off, 3)) (ht : ((pc + 3 : Nat) : Int) + off = (tgt : Int)) (k : wl_W p l e s m below meth c b D iC ad1 ad2 mc ms (i + 6) tgt st σ μ) : wl_W p l e s m below meth c b D iC ad1 ad2 mc ms i pc st σ μ := by
  intro H locs ls hl hP hM hS
  refine lv_iinc (v := nI (i + 6)) (lv' := [(3, .int (nI (i + 6))), (2, .ref (ad2 0)), (1, .ref (ad1 0)), (0, .ref b)]) C.1.1 C.1.2.1 d0 hl (k := 0) rfl (by rw [← nI_add]; rfl) (by decide) rfl (fun ls hl => ?_)
  exact lv_goto (tgt := tgt) C.1.1 C.1.2.1 d1 ht (k H locs ls hl hP hM hS)
theorem wl_end (C : wl_C p s m meth c b L xs D iC ad1 ad2) (hcs : mc ≤ 600000 ∧ ms ≤ 7302250) (d0 : decode code pc = .ok (.iconst 1, 1)) (d1 : decode code (pc + 1) = .ok (.ireturn, 1)) : wl_W p l e s m below meth c b D iC ad1 ad2 mc ms i pc [] σ μ := by
  intro H locs ls hl hP hM hS
  obtain ⟨⟨hx, hb, hr, hml, hown, hts, hX, hbl, hlocks, hgv⟩, -⟩ := C
  refine lv_iconst (v := 1) hx hb d0 (by decide) ?_
  refine va_forget (fun q hq => hS.2.2 q hq) ?_
  refine W.widen (k := 600000) (n := 7302250) hcs.1 hcs.2 ?_
  exact lw_ret hx hb hr hlocks d1
theorem wl_len {L i : Nat} (hL : L ≤ 3072) (hi : i ≤ L) (h6 : L < 6 → i = 0) : (Int32.ofNat L - 6 < nI i) ↔ L < i + 6 := by
  rcases Nat.lt_or_ge L 6 with h | h
  · have := h6 h
    subst this
    have : L = 0 ∨ L = 1 ∨ L = 2 ∨ L = 3 ∨ L = 4 ∨ L = 5 := by omega
    rcases this with rfl | rfl | rfl | rfl | rfl | rfl <;> decide
  · have e : Int32.ofNat L - 6 = nI (L - 6) := by
      have : nI L = nI (L - 6) + 6 := by rw [show (6 : Int32) = nI 6 from rfl, nI_add]; congr 1; omega
      show nI L - 6 = _
      rw [this, Int32.add_sub_cancel]
    rw [e, nI_ltI (by omega) (by omega)]
    omega
theorem wl_test (C : wl_C p s m meth c b L xs D iC ad1 ad2) (hi : i ≤ L) (h6 : L < 6 → i = 0) (d0 : decode code pc = .ok (.iload_n 3, 1)) (d1 : decode code (pc + 1) = .ok (.aload_n 0, 1)) (d2 : decode code (pc + 1 + 1) = .ok (.arraylength, 1)) (d3 : decode code (pc + 1 + 1 + 1) = .ok (.bipush 6, 2)) (d4 : decode code (pc + 1 + 1 + 1 + 2) = .ok (.isub, 1)) {off : Int} (tgt : Nat) (d5 : decode code (pc + 1 + 1 + 1 + 2 + 1) = .ok (.if_icmp .gt off, 3)) (ht : ((pc + 1 + 1 + 1 + 2 + 1 : Nat) : Int) + off = (tgt : Int)) (kt : L < i + 6 → wl_W p l e s m below meth c b D iC ad1 ad2 mc ms i tgt [] σ μ) (kf : i + 6 ≤ L → wl_W p l e s m below meth c b D iC ad1 ad2 mc ms i (pc + 1 + 1 + 1 + 2 + 1 + 3) [] σ μ) : wl_W p l e s m below meth c b D iC ad1 ad2 mc ms i pc [] σ μ := by
  intro H locs ls hl hP hM hS
  obtain ⟨⟨hx, hb, hr, hml, hown, hts, hX, hbl, hlocks, hgv⟩, hL, -⟩ := C
  refine lv_iload_n hx hb d0 rfl (lv_at hl 0 rfl) ?_
  refine lv_aload_n hx hb d1 rfl (lv_at hl 3 rfl) ?_
  refine va_slen hx hb hX hbl (Nat.not_le.mpr hbl) hS d2 ?_
  refine lv_bipush (v := 6) hx hb d3 (by decide) ?_
  refine lv_isub hx hb d4 ?_
  refine lv_icmp_gt (tgt := tgt) hx hb d5 ht (fun z => ?_) (fun z => ?_)
  · exact kt ((wl_len hL hi h6).mp z) H locs ls hl hP hM hS
  · exact kf (Nat.not_lt.mp (fun q => z ((wl_len hL hi h6).mpr q))) H locs ls hl hP hM hS
end WL
