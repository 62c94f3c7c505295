/-! THE WORLD IS COMPLETE: the class's and the model's methods may be called from a constructor -/
theorem st_Z.narrow {A B : Nat → Prop} {U : State} (h : st_Z A U) (hAB : ∀ q, B q → A q) : st_Z B U := by
  obtain ⟨⟨a1, h1, h2⟩, ⟨a2, h3, h4⟩, h5, h6, adK, adV, h7, h8⟩ := h
  exact ⟨⟨a1, va_Z.narrow h1 hAB, va_T.narrow h2 hAB⟩, ⟨a2, va_Z.narrow h3 hAB, va_T.narrow h4 hAB⟩, va_Z.narrow h5 hAB, va_Zq.narrow h6 hAB, adK, adV, vk_S.narrow h7 hAB, h8⟩
def zx_ok (T : x_Tb) (rq : zw_R) (o : Nat) : Bool :=
  if x_kd T o < 10 then (List.range (x_nf (x_kd T o))).all (fun k => !(x_isR (x_kd T o) k) || decide (rq o k = some (x_rf T o k)))
  else if x_kd T o = 15 then (List.range (x_ln T o)).all (fun k => decide (rq o k = some (x_rf T o k))) else true
section ZX1
variable {D : va_G} {iC : Nat → ClassId} {T : x_Tb} {b0 n : Nat} {Z : State → Prop} {ad : Nat → Nat} {rq : zw_R} {σ : x_Hp} {H : Heap}
theorem zx_OK (hT : ∀ o, x_kd T o < 16 ↔ o < T.1) (hZ : zw_OK b0 Z) (hD : va_D (zw_A b0) (zw_ws T iC ad rq σ T.1)) : x_OK T (D, iC, ad, Z) ∧ ∀ o, o < T.1 → b0 ≤ ad o := by
  have hb : ∀ o, o < T.1 → b0 ≤ ad o := fun o ho => hD.2 o _ (zw_at ho)
  have hA : ∀ q, x_A T (D, iC, ad, Z) q → b0 ≤ q := fun q ⟨o, ho, e⟩ => by rw [e]; exact hb o ho
  exact ⟨⟨hT, fun i j hi hj e => hD.1 i j _ _ (zw_at hi) (zw_at hj) e, fun s U hZs hW hsz hq => hZ.1 s U hZs hW hsz (fun q h1 h2 => hq q h1 (fun z => absurd (hA q z) (Nat.not_le.mpr h2))), hZ.2.1, fun U hU => (hZ.2.2.1 U hU).narrow hA⟩, hb⟩
theorem zx_arr {cA : ClassId} {N : Nat} {f g : Nat → Option Nat} (h : ∀ j, j < N → f j = g j) : vp_cell cA (N, .inr (.inr (.inr (.inr f)))) = vp_cell cA (N, .inr (.inr (.inr (.inr g)))) := by
  have e : ∀ f : Nat → Option Nat, vp_cell cA (N, .inr (.inr (.inr (.inr f)))) = arrV cA N (fun j => va_rf (f j)) := fun f => rfl
  rw [e, e, arrV, arrV]
  congr 2
  funext j
  rw [h j.val j.isLt]
theorem zx_PW (hR : ∀ o, o < T.1 → zx_ok T rq o = true) (hP : va_P D vwCl (zw_ws T iC ad rq σ T.1) H) : x_PW T (D, iC, ad, Z) σ H := by
  intro k q hk
  have hk' : k < T.1 := by
    have := (List.getElem?_eq_some_iff.mp hk).1
    rwa [x_ws_len] at this
  rw [x_ws_at T _ σ hk'] at hk
  cases hk
  have h := hP k _ (zw_at hk')
  have ok := hR k hk'
  rw [zx_ok] at ok
  show va_at D vwCl (ad k, x_E T (D, iC, ad, Z) σ k) H
  by_cases h10 : x_kd T k < 10
  · rw [if_pos h10] at ok
    have e : zw_E T iC ad rq σ k = x_E T (D, iC, ad, Z) σ k := by
      rw [zw_E, if_pos h10, x_E, if_pos h10]
      congr 2
      refine List.map_congr_left (fun f hf => ?_)
      have := List.all_eq_true.mp ok f hf
      by_cases hr : x_isR (x_kd T k) f = true
      · rw [hr] at this
        have e2 : rq k f = some (x_rf T k f) := of_decide_eq_true (by simpa using this)
        rw [if_pos hr, if_pos hr]
        show zw_r ad (.inl (rq k f)) = .ref (ad (x_rf T k f))
        rw [e2]
        rfl
      · rw [if_neg hr, if_neg hr]
    rw [← e]
    exact h
  · by_cases h13 : x_kd T k = 13
    · have e : zw_E T iC ad rq σ k = x_E T (D, iC, ad, Z) σ k := by
        rw [zw_E, if_neg h10, if_pos h13, x_E, if_neg h10, if_pos h13]
      rw [← e]
      exact h
    · by_cases h15 : x_kd T k = 15
      · rw [if_neg h10, if_pos h15] at ok
        have h' : H[ad k]? = some (vp_cell (iC 5) (x_ln T k, .inr (.inr (.inr (.inr (fun j => (rq k j).map ad)))))) := by
          have h2 := h
          rw [zw_E, if_neg h10, if_neg h13, if_pos h15] at h2
          exact h2
        rw [x_E, if_neg h10, if_neg h13, if_pos h15]
        show H[ad k]? = some (vp_cell (iC 5) _)
        rw [h']
        congr 1
        refine zx_arr (fun j hj => ?_)
        have e2 : rq k j = some (x_rf T k j) := of_decide_eq_true (List.all_eq_true.mp ok j (List.mem_range.mpr hj))
        rw [e2]
        rfl
      · have e : zw_E T iC ad rq σ k = x_E T (D, iC, ad, Z) σ k := by
          rw [zw_E, if_neg h10, if_neg h13, if_neg h15, x_E, if_neg h10, if_neg h13, if_neg h15]
        rw [← e]
        exact h
end ZX1
def zx_W (p : Program) (l : Launch) (e : Env) (R : Room) (s : State) (m : MethodId) (args : Array Value) (below : List Frame) (meth : Method) (c : Code) (Q : State → Prop) (T : x_Tb) (G : x_G) (b0 nL pc : Nat) (lv : List (Nat × Value)) (st : List Value) (σ : x_Hp) (mc ms : Nat) : Prop :=
  ∀ (H : Heap) (locs : List Loc) (ls : Array Slot), lv_has ls nL lv → x_PW T G σ H → va_S (zw_A b0) s.heap H locs → W p l e R s m args below meth c H locs mc ms Q (F0 m pc ls st)
/-- a constructor that ends with a complete world -/
def zx_Q (T : x_Tb) (D : va_G) (iC : Nat → ClassId) (Z : State → Prop) (b0 : Nat) (ad0 : Nat → Nat) (σ : x_Hp) : Array Value → State → Outcome → State → Prop :=
  va_Qv (fun ad : Nat → Nat => ad 0 = ad0 0 ∧ x_OK T (D, iC, ad, Z) ∧ ∀ o, o < T.1 → b0 ≤ ad o) (fun ad t => x_PW T (D, iC, ad, Z) σ t.heap) (zw_A b0)
section ZX2
variable {p : Program} {l : Launch} {e : Env} {R : Room} {s : State} {m : MethodId} {args : Array Value} {below : List Frame} {meth : Method} {c : Code} {Q : State → Prop} {cc : ByteArray} {nL : Nat} {own : String} {T : x_Tb} {D : va_G} {iC : Nat → ClassId} {ad : Nat → Nat} {b0 : Nat} {Z : State → Prop} {pc : Nat} {lv : List (Nat × Value)} {st : List Value} {σ : x_Hp} {mc ms : Nat}
theorem zx_aload (C : zw_C p s m args meth c cc nL own D iC b0 Z) {f : Fin 4} (q : Nat) {a : Nat} (d : decode cc pc = .ok (.aload_n f, 1)) (hq : lv[q]? = some ((f : Nat), .ref a)) (k : zx_W p l e R s m args below meth c Q T (D, iC, ad, Z) b0 nL (pc + 1) lv (.ref a :: st) σ mc ms) : zx_W p l e R s m args below meth c Q T (D, iC, ad, Z) b0 nL pc lv st σ mc ms :=
  fun H locs ls hl hP hS => lv_aload_n C.1 C.2.1 d rfl (lv_at hl q hq) (k H locs ls hl hP hS)
theorem zx_iconst (C : zw_C p s m args meth c cc nL own D iC b0 Z) {i : Int} (v : Int32) (d : decode cc pc = .ok (.iconst i, 1)) (hv : Int32.ofInt i = v) (k : zx_W p l e R s m args below meth c Q T (D, iC, ad, Z) b0 nL (pc + 1) lv (.int v :: st) σ mc ms) : zx_W p l e R s m args below meth c Q T (D, iC, ad, Z) b0 nL pc lv st σ mc ms :=
  fun H locs ls hl hP hS => lv_iconst C.1 C.2.1 d hv (k H locs ls hl hP hS)
theorem zx_bipush (C : zw_C p s m args meth c cc nL own D iC b0 Z) {i : Int} (v : Int32) (d : decode cc pc = .ok (.bipush i, 2)) (hv : (Int8.ofInt i).toInt32 = v) (k : zx_W p l e R s m args below meth c Q T (D, iC, ad, Z) b0 nL (pc + 2) lv (.int v :: st) σ mc ms) : zx_W p l e R s m args below meth c Q T (D, iC, ad, Z) b0 nL pc lv st σ mc ms :=
  fun H locs ls hl hP hS => lv_bipush C.1 C.2.1 d hv (k H locs ls hl hP hS)
theorem zx_getR (C : zw_C p s m args meth c cc nL own D iC b0 Z) (hG : x_OK T (D, iC, ad, Z)) {o ci k j index Nn : Nat} {ref Cn : String} {Tt : u_T} (hk : x_kd T o = ci) (h10 : ci < 10) (hc : vwCl[ci]? = some (Cn, Tt, Nn)) (hin : ∀ w ∈ u_ws Cn Tt Nn, w ∈ x_tbl) (hn : k < Nn) (hf : k < x_nf ci) (hr : x_isR ci k = true) (href : ref = (Tt k).1) (hlink : Cond.fieldLink own index ref (Tt k).2.1 (Tt k).2.2.1 ∈ x_tbl) (hj : x_rf T o k = j) (d : decode cc pc = .ok (.getfield index, 3)) (kk : zx_W p l e R s m args below meth c Q T (D, iC, ad, Z) b0 nL (pc + 3) lv (.ref (ad j) :: st) σ mc ms) : zx_W p l e R s m args below meth c Q T (D, iC, ad, Z) b0 nL pc lv (.ref (ad o) :: st) σ mc ms := by
  intro H locs ls hl hP hS
  subst hj
  obtain ⟨hx, hb, hml, hret, hlk, hown, hts, hK, hZ, hZs, hb0, hname⟩ := C
  have he : (x_ws T (D, iC, ad, Z) σ)[o]? = some (ad o, .inr (ci, x_fs ci (fun k => .ref (ad (x_rf T o k))) (σ.1 o))) := by rw [x_ws_at T _ σ (x_lt hG hk (by omega)), x_E_o hk h10]
  exact va_get hx hb hts hin hown hK hP o he hc _ hn (hts _ hlink) (fun x h => by rw [href]; exact h) (by rw [x_fs_get _ _ hf, hr]; rfl) d (kk H locs ls hl hP hS)
theorem zx_last (C : zw_C p s m args meth c cc nL own D iC b0 Z) (hG : x_OK T (D, iC, ad, Z)) (hA : ∀ q, x_A T (D, iC, ad, Z) q → b0 ≤ q) {o : Nat} {i : Int32} {x : Int64} (hk : x_kd T o = 13) (hi : x_inb i (x_ln T o) = true) (d : decode cc pc = .ok (.lastore, 1)) (k : zx_W p l e R s m args below meth c Q T (D, iC, ad, Z) b0 nL (pc + 1) lv st (x_pL σ o (x_ix i) x) mc ms) : zx_W p l e R s m args below meth c Q T (D, iC, ad, Z) b0 nL pc lv (.long x :: .int i :: .ref (ad o) :: st) σ mc ms := by
  intro H locs ls hl hP hS
  obtain ⟨hx, hb, hml, hret, hlk, hown, hts, hK, hZ, hZs, hb0, hname⟩ := C
  refine va_last hx hb hK hP ((x_vaD hG σ).weaken (fun k q _ z => hA _ z)) hS o 3 (by rw [x_ws_at T _ σ (x_lt hG hk (by decide)), x_E_l hk]) rfl (x_inb_in hi) d (fun H1 locs1 hP1 hD1 hS1 => k H1 locs1 ls hl ?_ hS1)
  rw [x_ws_set T _ σ (x_pL σ o (x_ix i) x) _ (by rw [x_E_l hk]; simp [x_pL, x_u]; rfl) (fun j hj => x_E_pL hj)] at hP1
  exact hP1
theorem zx_run {H : Heap} {locs : List Loc} {ls : Array Slot} {st0 : List Value} {a : Array Value} {rv : Option Value} {τ : x_Hp} (hA : ∀ q, x_A T (D, iC, ad, Z) q → b0 ≤ q) (hr : va_Run p l e R s m args below meth c H locs mc ms 0 0 (F0 m pc ls st0) st (x_Q T (D, iC, ad, Z) rv τ a) (x_A T (D, iC, ad, Z))) (hS : va_S (zw_A b0) s.heap H locs)
    (kk : ∀ (H1 : Heap) (locs1 : List Loc), x_PW T (D, iC, ad, Z) τ H1 → va_S (zw_A b0) s.heap H1 locs1 → W p l e R s m args below meth c H1 locs1 mc ms Q (F0 m (pc + 3) ls (rv.toList ++ st))) : W p l e R s m args below meth c H locs mc ms Q (F0 m pc ls st0) := by
  intro U hU X
  obtain ⟨v, st₀, t, U2, L, h0, X', hL, e1, e2, ⟨hv, hp, hz, hk⟩, stp⟩ := hr U hU X
  cases hv
  rw [h0] at hz hk
  obtain ⟨t2, a1, b1⟩ := kk U2.heap (locs ++ L) (by rw [e1]; exact hp)
    ⟨Nat.le_trans hS.1 (by rw [e1]; exact hz), fun q h1 h2 => by rw [e1, hk q (Nat.lt_of_lt_of_le h1 hS.1) (fun z => h2 (hA q z))]; exact hS.2.1 q h1 h2, fun q hq => by
      rcases List.mem_append.mp hq with h | h
      · exact hS.2.2 q h
      · exact hA _ (hL q h)⟩ U2 rfl X'
  exact ⟨t2, stp t2 a1, b1⟩
theorem zx_pre (C : zw_C p s m args meth c cc nL own D iC b0 Z) {H : Heap} {locs : List Loc} (hP : x_PW T (D, iC, ad, Z) σ H) (hS : va_S (zw_A b0) s.heap H locs) (av : List Value) : ∀ U : State, U.heap = H → s.WarmedH U.vm → va_Pc av (x_Pr T (D, iC, ad, Z) σ) av.toArray U := by
  intro U hU hW
  obtain ⟨hx, hb, hml, hret, hlk, hown, hts, hK, hZ, hZs, hb0, hname⟩ := C
  exact ⟨rfl, by show x_PW T _ σ U.heap; rw [hU]; exact hP, va_K.moved hW.alike hK, hZ.1 s U hZs hW (by rw [hU]; exact hS.1) (fun q h1 h2 => by rw [hU]; exact hS.2.1 q h1 (Nat.not_le.mpr h2))⟩
theorem zx_callV (C : zw_C p s m args meth c cc nL own D iC b0 Z) (hG : x_OK T (D, iC, ad, Z)) (hA : ∀ q, x_A T (D, iC, ad, Z) q → b0 ≤ q) {y : MethodName} {b : ByteArray} {nL2 na index : Nat} {ret2 : Option FieldType} {rm2 : Room} {rv : Option Value} {τ : x_Hp} {st0 : List Value} {o ci : Nat} {av : List Value} {q : vw_C} (hM : x_M l T (D, iC, ad, Z) y b nL2 ret2 rm2 (.ref (ad o) :: av) σ rv τ) (hk : x_kd T o = ci) (h10 : ci < 10) (hc : vwCl[ci]? = some q) (hl : Cond.methodLink own index y ∈ x_tbl) (hi : Cond.instanceMethod y ∈ x_tbl) (hs : Cond.selects q.1 y y ∈ x_tbl) (hini : Cond.initialized q.1 ∈ x_tbl) (hcode : Cond.code y b nL2 ret2 ∈ x_tbl) (hd : y.cls = q.1 ∧ y.cls ≠ "java/lang/invoke/MethodHandle" ∧ y.cls ≠ "java/lang/invoke/VarHandle" ∧ (parseMethodDescriptor y.desc).map (fun d => d.parameters.length) = some na) (hn : av.length = na) (hR : rm2.frames + 1 ≤ R.frames ∧ 8 + (nL2 + 11) + rm2.locals ≤ R.locals) (hrm : rm2.cells = 0 ∧ rm2.slots = 0) (hcs : mc ≤ R.cells ∧ ms ≤ R.slots) (hst : st0 = av.reverse ++ .ref (ad o) :: st) (hcat : (st.map fun v => v.category).sum ≤ 8) (d : decode cc pc = .ok (.invokevirtual index, 3)) (k : zx_W p l e R s m args below meth c Q T (D, iC, ad, Z) b0 nL (pc + 3) lv (rv.toList ++ st) τ mc ms) : zx_W p l e R s m args below meth c Q T (D, iC, ad, Z) b0 nL pc lv st0 σ mc ms := by
  intro H locs ls hls hP hS
  have C' := C
  obtain ⟨hx, hb, hml, hret, hlk, hown, hts, hK, hZ, hZs, hb0, hname⟩ := C
  have he : (x_ws T (D, iC, ad, Z) σ)[o]? = some (ad o, .inr (ci, x_fs ci (fun k => .ref (ad (x_rf T o k))) (σ.1 o))) := by rw [x_ws_at T _ σ (x_lt hG hk (by omega)), x_E_o hk h10]
  refine zx_run hA (va_runV (As := av) ⟨hx, hb, hml, hown, hts⟩ hM (cwV na hts ?_ rfl hrm.1 hrm.2 hd hR) ⟨x_blind hG _, va_recv hK hP hc he, zx_pre C' hP hS _⟩ rfl hn hls.1 hst (lv_room hcat) d ⟨hcs.1, hcs.2⟩) hS (fun H1 locs1 hP1 hS1 => k H1 locs1 ls hls hP1 hS1)
  intro w hw
  rcases List.mem_append.mp hw with h | h
  · have hm : w ∈ x_tbl := by
      simp only [List.mem_cons, List.not_mem_nil, or_false] at h
      rcases h with h | h | h | h <;> subst h <;> assumption
    exact ⟨hm, good_of_word (List.mem_filter.mp hm).2⟩
  · exact x_goodIn hcode w h
theorem zx_callS (C : zw_C p s m args meth c cc nL own D iC b0 Z) (hG : x_OK T (D, iC, ad, Z)) (hA : ∀ q, x_A T (D, iC, ad, Z) q → b0 ≤ q) {y : MethodName} {b : ByteArray} {nL2 na index : Nat} {ret2 : Option FieldType} {rm2 : Room} {rv : Option Value} {τ : x_Hp} {st0 : List Value} {av : List Value} (hM : x_M l T (D, iC, ad, Z) y b nL2 ret2 rm2 av σ rv τ) (hl : Cond.methodLink own index y ∈ x_tbl) (hi : Cond.static y ∈ x_tbl) (hini : Cond.initialized own ∈ x_tbl) (hcode : Cond.code y b nL2 ret2 ∈ x_tbl) (hd : y.cls = own ∧ y.cls ≠ "java/lang/invoke/MethodHandle" ∧ y.cls ≠ "java/lang/invoke/VarHandle" ∧ (parseMethodDescriptor y.desc).map (fun d => d.parameters.length) = some na) (hn : av.length = na) (hR : rm2.frames + 1 ≤ R.frames ∧ 8 + (nL2 + 11) + rm2.locals ≤ R.locals) (hrm : rm2.cells = 0 ∧ rm2.slots = 0) (hcs : mc ≤ R.cells ∧ ms ≤ R.slots) (hst : st0 = av.reverse ++ st) (hcat : (st.map fun v => v.category).sum ≤ 8) (d : decode cc pc = .ok (.invokestatic index, 3)) (k : zx_W p l e R s m args below meth c Q T (D, iC, ad, Z) b0 nL (pc + 3) lv (rv.toList ++ st) τ mc ms) : zx_W p l e R s m args below meth c Q T (D, iC, ad, Z) b0 nL pc lv st0 σ mc ms := by
  intro H locs ls hls hP hS
  have C' := C
  obtain ⟨hx, hb, hml, hret, hlk, hown, hts, hK, hZ, hZs, hb0, hname⟩ := C
  refine zx_run hA (va_runS (As := av) ⟨hx, hb, hml, hown, hts⟩ hM (cwS na hts ?_ rfl hrm.1 hrm.2 hd hR) ⟨x_blind hG _, zx_pre C' hP hS _⟩ rfl hn hls.1 hst (lv_room hcat) d ⟨hcs.1, hcs.2⟩) hS (fun H1 locs1 hP1 hS1 => k H1 locs1 ls hls hP1 hS1)
  intro w hw
  rcases List.mem_append.mp hw with h | h
  · have hm : w ∈ x_tbl := by
      simp only [List.mem_cons, List.not_mem_nil, or_false] at h
      rcases h with h | h | h <;> subst h <;> assumption
    exact ⟨hm, good_of_word (List.mem_filter.mp hm).2⟩
  · exact x_goodIn hcode w h
theorem zx_vret (C : zw_C p s m args meth c cc nL own D iC b0 Z) (hG : x_OK T (D, iC, ad, Z)) {ad0 : Nat → Nat} (h0 : ad 0 = ad0 0) (hb : ∀ o, o < T.1 → b0 ≤ ad o) (d : decode cc pc = .ok (.return_, 1)) : zx_W p l e R s m args below meth c (MQ below (zx_Q T D iC Z b0 ad0 σ) args s mc ms (zw_A b0)) T (D, iC, ad, Z) b0 nL pc lv [] σ mc ms := by
  intro H locs ls hl' hP hS
  obtain ⟨hx, hb', hml, hret, hlk, hown, hts, hK, hZ, hZs, hb0, hname⟩ := C
  exact W.vret hx hb' hret (fun t ht hW => ⟨⟨ad, rfl, ⟨h0, hG, hb⟩, by show x_PW T (D, iC, ad, Z) σ t.heap; rw [ht]; exact hP⟩, hS.F ht⟩) hS.2.2 d
end ZX2
/-- the contract of a constructor that ends with a complete world -/
def zx_M (l : Launch) (D : va_G) (iC : Nat → ClassId) (T : x_Tb) (b0 : Nat) (Z : State → Prop) (y : MethodName) (b : ByteArray) (nL : Nat) (rm : Room) (mc ms : Nat) (σ : x_Hp) : Prop :=
  ∀ ad0 : Nat → Nat, Met l y (.code y b nL none :: x_tbl) rm (va_Pc [.ref (ad0 0)] (zw_Pr D iC T b0 Z 1 ad0 zq_0 zs_0)) (zx_Q T D iC Z b0 ad0 σ) mc ms (zw_A b0)
theorem zw_cl0 : zw_cl 1 zq_0 zs_0 := ⟨fun o k j h => (by cases h), fun o k _ => ⟨rfl, rfl, rfl⟩⟩
theorem zx_M.of {l : Launch} {D : va_G} {iC : Nat → ClassId} {T : x_Tb} {b0 : Nat} {Z : State → Prop} (hZ : zw_OK b0 Z) {y : MethodName} {b : ByteArray} {nL : Nat} {rm : Room} {mc ms : Nat} {σ' : x_Hp} (hy : plainName y.cls = true) (hyn : y.name = "<init>") (hnL : 1 ≤ nL)
    (body : ∀ (ad0 : Nat → Nat) (p : Program) (e : Env) (s : State) (m : MethodId) (args : Array Value) (below : List Frame) (meth : Method) (c : Code), zw_C p s m args meth c b nL y.cls D iC b0 Z → zw_W p l e rm s m args below meth c (MQ below (zx_Q T D iC Z b0 ad0 σ') args s mc ms (zw_A b0)) D iC T b0 1 ad0 nL 0 [(0, .inl (some 0))] [] 1 zq_0 zs_0 0 0) : zx_M l D iC T b0 Z y b nL rm mc ms σ' := by
  intro ad0
  refine Met.ofW (cc := b) (maxL := nL) (ret := none) hy rfl ?_
  intro p e s m args below meth c s₁ B hml hv
  obtain ⟨rfl, hP, hD, hK, hZs, hb0⟩ := hv
  have hts := atoms_spec (ws := .code y b nL none :: x_tbl) B.pre
  have hown : s.vm.findClass y.cls = some m.cls := findClass_of_methodNamed B.named
  have hl := lv_entry [Value.ref (ad0 0)] (n := nL) hnL
  have hname : meth.name = "<init>" := (name_of_methodNamed B.named B.method).1.trans hyn
  rw [lg_entry_eq]
  exact body ad0 p e s m _ below meth c ⟨B.exec, B.bytes, hml, B.returns, B.notSynchronized, hown, fun w hw => hts w (List.mem_cons_of_mem _ hw), hK, hZ, hZs, hb0, hname⟩ ad0 s.heap [] _ (fun _ _ => rfl) (Nat.le_refl 1) zw_cl0 hl hP hD va_S.rf
