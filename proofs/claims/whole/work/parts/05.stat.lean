def x_sv_LEAST_TOLD (i : Int32) : Int32 := if x_inb i 7 = true then ([-9, -9, -9, -9, 0, 0, 0] : List Int32).getD (x_ix i) 0 else 0
def x_sv_MOST_TOLD_BY (i : Int32) : Int32 := if x_inb i 7 = true then ([9, 9, 9, 9, 99, 1, 100] : List Int32).getD (x_ix i) 0 else 0
def x_words : List Nat := "baby    aunt    hungers tires   wonders winds   cries   sleeps  spits   fresh   feeds   seed    sits    if      then    else    hunger  tired   wonder  wind    held    rock    show    beard   seen    ".toList.map (fun c => c.toNat)
def x_wch (i : Int32) : Int32 := nI (x_words.getD (x_ix i) 0)
theorem st_wch : ∀ j, j < 200 → ((st_byt.getD j 0 &&& 255).toUInt32 % 65536).toInt32 = nI (x_words.getD j 0) ∧ narrow .char (.int (nI (x_words.getD j 0))) = .int (nI (x_words.getD j 0)) := by decide +kernel
theorem dJ0_length_8abf5_0 : decode cJ0_length_8abf5 0 = .ok (.aload_n 0, 1) := by decide +kernel
theorem dJ0_length_8abf5_1 : decode cJ0_length_8abf5 1 = .ok (.getfield 9, 3) := by decide +kernel
theorem dJ0_length_8abf5_4 : decode cJ0_length_8abf5 4 = .ok (.arraylength, 1) := by decide +kernel
theorem dJ0_length_8abf5_5 : decode cJ0_length_8abf5 5 = .ok (.aload_n 0, 1) := by decide +kernel
theorem dJ0_length_8abf5_6 : decode cJ0_length_8abf5 6 = .ok (.invokevirtual 335, 3) := by decide +kernel
theorem dJ0_length_8abf5_9 : decode cJ0_length_8abf5 9 = .ok (.ishr, 1) := by decide +kernel
theorem dJ0_length_8abf5_10 : decode cJ0_length_8abf5 10 = .ok (.ireturn, 1) := by decide +kernel
theorem dJ0_charAt_5068e_0 : decode cJ0_charAt_5068e 0 = .ok (.aload_n 0, 1) := by decide +kernel
theorem dJ0_charAt_5068e_1 : decode cJ0_charAt_5068e 1 = .ok (.invokevirtual 492, 3) := by decide +kernel
theorem dJ0_charAt_5068e_4 : decode cJ0_charAt_5068e 4 = .ok (.ifCond .eq 12, 3) := by decide +kernel
theorem dJ0_charAt_5068e_7 : decode cJ0_charAt_5068e 7 = .ok (.aload_n 0, 1) := by decide +kernel
theorem dJ0_charAt_5068e_8 : decode cJ0_charAt_5068e 8 = .ok (.getfield 9, 3) := by decide +kernel
theorem dJ0_charAt_5068e_11 : decode cJ0_charAt_5068e 11 = .ok (.iload_n 1, 1) := by decide +kernel
theorem dJ0_charAt_5068e_12 : decode cJ0_charAt_5068e 12 = .ok (.invokestatic 495, 3) := by decide +kernel
theorem dJ0_charAt_5068e_15 : decode cJ0_charAt_5068e 15 = .ok (.ireturn, 1) := by decide +kernel
theorem dJ0_charAt_5068e_16 : decode cJ0_charAt_5068e 16 = .ok (.aload_n 0, 1) := by decide +kernel
theorem dJ0_charAt_5068e_17 : decode cJ0_charAt_5068e 17 = .ok (.getfield 9, 3) := by decide +kernel
theorem dJ0_charAt_5068e_20 : decode cJ0_charAt_5068e 20 = .ok (.iload_n 1, 1) := by decide +kernel
theorem dJ0_charAt_5068e_21 : decode cJ0_charAt_5068e 21 = .ok (.invokestatic 498, 3) := by decide +kernel
theorem dJ0_charAt_5068e_24 : decode cJ0_charAt_5068e 24 = .ok (.ireturn, 1) := by decide +kernel
theorem dJ0_coder_7d493_0 : decode cJ0_coder_7d493 0 = .ok (.getstatic 38, 3) := by decide +kernel
theorem dJ0_coder_7d493_3 : decode cJ0_coder_7d493 3 = .ok (.ifCond .eq 10, 3) := by decide +kernel
theorem dJ0_coder_7d493_6 : decode cJ0_coder_7d493 6 = .ok (.aload_n 0, 1) := by decide +kernel
theorem dJ0_coder_7d493_7 : decode cJ0_coder_7d493 7 = .ok (.getfield 15, 3) := by decide +kernel
theorem dJ0_coder_7d493_10 : decode cJ0_coder_7d493 10 = .ok (.goto 4, 3) := by decide +kernel
theorem dJ0_coder_7d493_13 : decode cJ0_coder_7d493 13 = .ok (.iconst 1, 1) := by decide +kernel
theorem dJ0_coder_7d493_14 : decode cJ0_coder_7d493 14 = .ok (.ireturn, 1) := by decide +kernel
theorem dJ0_isLatin1_aae02_0 : decode cJ0_isLatin1_aae02 0 = .ok (.getstatic 38, 3) := by decide +kernel
theorem dJ0_isLatin1_aae02_3 : decode cJ0_isLatin1_aae02 3 = .ok (.ifCond .eq 14, 3) := by decide +kernel
theorem dJ0_isLatin1_aae02_6 : decode cJ0_isLatin1_aae02 6 = .ok (.aload_n 0, 1) := by decide +kernel
theorem dJ0_isLatin1_aae02_7 : decode cJ0_isLatin1_aae02 7 = .ok (.getfield 15, 3) := by decide +kernel
theorem dJ0_isLatin1_aae02_10 : decode cJ0_isLatin1_aae02 10 = .ok (.ifCond .ne 7, 3) := by decide +kernel
theorem dJ0_isLatin1_aae02_13 : decode cJ0_isLatin1_aae02 13 = .ok (.iconst 1, 1) := by decide +kernel
theorem dJ0_isLatin1_aae02_14 : decode cJ0_isLatin1_aae02 14 = .ok (.goto 4, 3) := by decide +kernel
theorem dJ0_isLatin1_aae02_17 : decode cJ0_isLatin1_aae02 17 = .ok (.iconst 0, 1) := by decide +kernel
theorem dJ0_isLatin1_aae02_18 : decode cJ0_isLatin1_aae02 18 = .ok (.ireturn, 1) := by decide +kernel
theorem dJ0_checkIndex_df160_0 : decode cJ0_checkIndex_df160 0 = .ok (.iload_n 0, 1) := by decide +kernel
theorem dJ0_checkIndex_df160_1 : decode cJ0_checkIndex_df160 1 = .ok (.iload_n 1, 1) := by decide +kernel
theorem dJ0_checkIndex_df160_2 : decode cJ0_checkIndex_df160 2 = .ok (.getstatic 1053, 3) := by decide +kernel
theorem dJ0_checkIndex_df160_5 : decode cJ0_checkIndex_df160 5 = .ok (.invokestatic 1059, 3) := by decide +kernel
theorem dJ0_checkIndex_df160_8 : decode cJ0_checkIndex_df160 8 = .ok (.pop, 1) := by decide +kernel
theorem dJ0_checkIndex_df160_9 : decode cJ0_checkIndex_df160 9 = .ok (.return_, 1) := by decide +kernel
theorem dJ1_charAt_3b067_0 : decode cJ1_charAt_3b067 0 = .ok (.iload_n 1, 1) := by decide +kernel
theorem dJ1_charAt_3b067_1 : decode cJ1_charAt_3b067 1 = .ok (.aload_n 0, 1) := by decide +kernel
theorem dJ1_charAt_3b067_2 : decode cJ1_charAt_3b067 2 = .ok (.arraylength, 1) := by decide +kernel
theorem dJ1_charAt_3b067_3 : decode cJ1_charAt_3b067 3 = .ok (.invokestatic 9, 3) := by decide +kernel
theorem dJ1_charAt_3b067_6 : decode cJ1_charAt_3b067 6 = .ok (.aload_n 0, 1) := by decide +kernel
theorem dJ1_charAt_3b067_7 : decode cJ1_charAt_3b067 7 = .ok (.iload_n 1, 1) := by decide +kernel
theorem dJ1_charAt_3b067_8 : decode cJ1_charAt_3b067 8 = .ok (.baload, 1) := by decide +kernel
theorem dJ1_charAt_3b067_9 : decode cJ1_charAt_3b067 9 = .ok (.sipush 255, 3) := by decide +kernel
theorem dJ1_charAt_3b067_12 : decode cJ1_charAt_3b067 12 = .ok (.iand, 1) := by decide +kernel
theorem dJ1_charAt_3b067_13 : decode cJ1_charAt_3b067 13 = .ok (.i2c, 1) := by decide +kernel
theorem dJ1_charAt_3b067_14 : decode cJ1_charAt_3b067 14 = .ok (.ireturn, 1) := by decide +kernel
theorem dJ3_checkIndex_8e157_0 : decode cJ3_checkIndex_8e157 0 = .ok (.iload_n 0, 1) := by decide +kernel
theorem dJ3_checkIndex_8e157_1 : decode cJ3_checkIndex_8e157 1 = .ok (.ifCond .lt 8, 3) := by decide +kernel
theorem dJ3_checkIndex_8e157_4 : decode cJ3_checkIndex_8e157 4 = .ok (.iload_n 0, 1) := by decide +kernel
theorem dJ3_checkIndex_8e157_5 : decode cJ3_checkIndex_8e157 5 = .ok (.iload_n 1, 1) := by decide +kernel
theorem dJ3_checkIndex_8e157_6 : decode cJ3_checkIndex_8e157 6 = .ok (.if_icmp .lt 10, 3) := by decide +kernel
theorem dJ3_checkIndex_8e157_9 : decode cJ3_checkIndex_8e157 9 = .ok (.aload_n 2, 1) := by decide +kernel
theorem dJ3_checkIndex_8e157_10 : decode cJ3_checkIndex_8e157 10 = .ok (.iload_n 0, 1) := by decide +kernel
theorem dJ3_checkIndex_8e157_11 : decode cJ3_checkIndex_8e157 11 = .ok (.iload_n 1, 1) := by decide +kernel
theorem dJ3_checkIndex_8e157_12 : decode cJ3_checkIndex_8e157 12 = .ok (.invokestatic 95, 3) := by decide +kernel
theorem dJ3_checkIndex_8e157_15 : decode cJ3_checkIndex_8e157 15 = .ok (.athrow, 1) := by decide +kernel
theorem dJ3_checkIndex_8e157_16 : decode cJ3_checkIndex_8e157 16 = .ok (.iload_n 0, 1) := by decide +kernel
theorem dJ3_checkIndex_8e157_17 : decode cJ3_checkIndex_8e157 17 = .ok (.ireturn, 1) := by decide +kernel
def st_M (l : Launch) (T : x_Tb) (G : x_G) (y : MethodName) (b : ByteArray) (nL : Nat) (ret : Option FieldType) (rm : Room) (av : List Value) (σ : x_Hp) (rv : Option Value) (X : State → Prop) : Prop :=
  Met l y (.code y b nL ret :: x_tbl) rm (va_Pc av (fun U => x_Pr T G σ U ∧ X U)) (x_Q T G rv σ) 0 0 (x_A T G)
/-- what stands as long as no cell of the world's is asked -/
def st_X (T : x_Tb) (G : x_G) (X : State → Prop) : Prop := ∀ s U : State, X s → s.vm.Alike U.vm → s.heap.size ≤ U.heap.size → (∀ q : Nat, q < s.heap.size → ¬ x_A T G q → U.heap[q]? = s.heap[q]?) → X U
def st_S (A : Nat → Prop) (q qv : Nat) (U : State) : Prop := va_Z "java/lang/String" "COMPACT_STRINGS" "Z" (.int 1) A U U.heap ∧ va_OF "java/lang/String" "coder" "B" (.int 0) q A U U.heap ∧ va_OF "java/lang/String" "value" "[B" (.ref qv) q A U U.heap ∧ va_T .byte qv 200 (fun j => .int (st_byt.getD j 0)) A U U.heap ∧ va_O "java/lang/String" q A U U.heap ∧ va_Zq "jdk/internal/util/Preconditions" "SIOOBE_FORMATTER" "Ljava/util/function/BiFunction;" A U U.heap
theorem st_S.X {T : x_Tb} {G : x_G} {q qv : Nat} : st_X T G (st_S (x_A T G) q qv) := by
  intro s U h hvm _ hq
  obtain ⟨h1, h2, h3, h4, h5, h6⟩ := h
  exact ⟨va_Z.kept (va_Z.moved hvm h1) hq, va_OF.kept (va_OF.moved hvm h2) hq, va_OF.kept (va_OF.moved hvm h3) hq, va_T.kept (va_T.moved hvm h4) hq, va_O.kept (va_O.moved hvm h5) hq, va_Zq.kept (va_Zq.moved hvm h6) hq⟩
theorem st_T.X {T : x_Tb} {G : x_G} {ty : FieldType} {a n : Nat} {f : Nat → Value} : st_X T G (fun U => va_T ty a n f (x_A T G) U U.heap) := fun _ _ h hvm _ hq => va_T.kept (va_T.moved hvm h) hq
theorem st_M.of {l : Launch} {T : x_Tb} {G : x_G} (hG : x_OK T G) {y : MethodName} {b : ByteArray} {nL : Nat} {ret : Option FieldType} {rm : Room} {av : List Value} {σ : x_Hp} {rv : Option Value} {X : State → Prop} {lv : List (Nat × Value)} (hy : plainName y.cls = true) (hn : (lg_sl av).length ≤ nL) (hlv : lv_args 0 av = lv)
    (body : ∀ (p : Program) (e : Env) (s : State) (m : MethodId) (below : List Frame) (meth : Method) (c : Code), x_C p s m av.toArray meth c b nL ret y.cls T G → X s → x_W p l e rm s m av.toArray below meth c (MQ below (x_Q T G rv σ) av.toArray s 0 0 (x_A T G)) T G nL 0 lv [] σ) : st_M l T G y b nL ret rm av σ rv X := by
  unfold st_M
  refine Met.ofW (cc := b) (maxL := nL) (ret := ret) hy rfl ?_
  intro p e s m args below meth c s₁ B hml hv
  obtain ⟨rfl, ⟨hP, hK, hZ⟩, hX⟩ := hv
  have hts := atoms_spec (ws := .code y b nL ret :: x_tbl) B.pre
  have hown : s.vm.findClass y.cls = some m.cls := findClass_of_methodNamed B.named
  have hl := lv_entry av (n := nL) hn
  rw [lg_entry_eq]
  rw [hlv] at hl
  exact body p e s m below meth c ⟨B.exec, B.bytes, hml, B.returns, B.notSynchronized, hown, fun w hw => hts w (List.mem_cons_of_mem _ hw), hK, hG, hZ⟩ hX s.heap [] _ hl hP va_S.rf
section XST
variable {p : Program} {l : Launch} {e : Env} {R : Room} {s : State} {m : MethodId} {args : Array Value} {below : List Frame} {meth : Method} {c : Code} {Q : State → Prop} {cc : ByteArray} {nL : Nat} {ret : Option FieldType} {own : String} {T : x_Tb} {G : x_G} {pc : Nat} {lv : List (Nat × Value)} {st : List Value} {σ : x_Hp} {X : State → Prop}
theorem st_pre (C : x_C p s m args meth c cc nL ret own T G) (hX : st_X T G X) (h : X s) {H : Heap} {locs : List Loc} (hP : x_PW T G σ H) (hS : va_S (x_A T G) s.heap H locs) (av : List Value) : ∀ U : State, U.heap = H → s.WarmedH U.vm → va_Pc av (fun U => x_Pr T G σ U ∧ X U) av.toArray U := by
  intro U hU hW
  obtain ⟨h1, h2⟩ := x_pre C hP hS av U hU hW
  exact ⟨h1, h2, hX s U h hW.alike (by rw [hU]; exact hS.1) (fun q h1 h2 => by rw [hU]; exact hS.2.1 q h1 h2)⟩
theorem st_blind (hG : x_OK T G) (hX : st_X T G X) (av : List Value) : FrameBlind (va_Pc av (fun U => x_Pr T G σ U ∧ X U)) := by
  intro a U g mk h
  obtain ⟨h0, h1, h2⟩ := h
  obtain ⟨h3, h4⟩ := x_blind hG av a U g mk ⟨h0, h1⟩
  exact ⟨h3, h4, hX U (U.calling g mk a) h2 (Vm.Alike.refl U.vm) (Nat.le_refl _) (fun _ _ _ => rfl)⟩
theorem st_callS (C : x_C p s m args meth c cc nL ret own T G) (hX : st_X T G X) (hx0 : X s) {y : MethodName} {b : ByteArray} {nL2 n index : Nat} {ret2 : Option FieldType} {rm2 : Room} {rv : Option Value} {st0 : List Value} {av : List Value} (hM : st_M l T G y b nL2 ret2 rm2 av σ rv X) (hl : Cond.methodLink own index y ∈ x_tbl) (hi : Cond.static y ∈ x_tbl) (hini : Cond.initialized y.cls ∈ x_tbl) (hcode : Cond.code y b nL2 ret2 ∈ x_tbl) (hd : y.cls ≠ "java/lang/invoke/MethodHandle" ∧ y.cls ≠ "java/lang/invoke/VarHandle" ∧ (parseMethodDescriptor y.desc).map (fun d => d.parameters.length) = some n) (hn : av.length = n) (hR : rm2.frames + 1 ≤ R.frames ∧ 8 + (nL2 + 11) + rm2.locals ≤ R.locals) (hrm : rm2.cells = 0 ∧ rm2.slots = 0) (hst : st0 = av.reverse ++ st) (hcat : (st.map fun v => v.category).sum ≤ 8) (d : decode cc pc = .ok (.invokestatic index, 3)) (k : x_W p l e R s m args below meth c Q T G nL (pc + 3) lv (rv.toList ++ st) σ) : x_W p l e R s m args below meth c Q T G nL pc lv st0 σ := by
  intro H locs ls hls hP hS
  have C' := C
  obtain ⟨hx, hb, hml, hret, hlk, hown, hts, hK, hG, hZ⟩ := C
  refine x_run (va_runS (As := av) ⟨hx, hb, hml, hown, hts⟩ hM (va_cwS n hts ?_ rfl hrm.1 hrm.2 hd hR) ⟨st_blind hG hX _, st_pre C' hX hx0 hP hS _⟩ rfl hn hls.1 hst (lv_room hcat) d ⟨Nat.zero_le _, Nat.zero_le _⟩) hS (fun H1 locs1 hP1 hS1 => k H1 locs1 ls hls hP1 hS1)
  intro w hw
  rcases List.mem_append.mp hw with h | h
  · have hm : w ∈ x_tbl := by
      simp only [List.mem_cons, List.not_mem_nil, or_false] at h
      rcases h with h | h | h <;> subst h <;> assumption
    exact ⟨hm, good_of_word (List.mem_filter.mp hm).2⟩
  · exact x_goodIn hcode w h
theorem st_callSN (C : x_C p s m args meth c cc nL ret own T G) (hX : st_X T G X) (hx0 : X s) {y : MethodName} {b : ByteArray} {nL2 n index : Nat} {ret2 : Option FieldType} {rm2 : Room} {rv : Option Value} {st0 : List Value} {host : String} {i : Nat} {av : List Value} (hM : st_M l T G y b nL2 ret2 rm2 av σ rv X) (hl : lw_tbl[i]? = some (Cond.methodLinkNest own index y host)) (hi : Cond.static y ∈ x_tbl) (hini : Cond.initialized y.cls ∈ x_tbl) (hcode : Cond.code y b nL2 ret2 ∈ x_tbl) (hd : y.cls ≠ "java/lang/invoke/MethodHandle" ∧ y.cls ≠ "java/lang/invoke/VarHandle" ∧ (parseMethodDescriptor y.desc).map (fun d => d.parameters.length) = some n) (hn : av.length = n) (hR : rm2.frames + 1 ≤ R.frames ∧ 8 + (nL2 + 11) + rm2.locals ≤ R.locals) (hrm : rm2.cells = 0 ∧ rm2.slots = 0) (hst : st0 = av.reverse ++ st) (hcat : (st.map fun v => v.category).sum ≤ 8) (d : decode cc pc = .ok (.invokestatic index, 3)) (k : x_W p l e R s m args below meth c Q T G nL (pc + 3) lv (rv.toList ++ st) σ) : x_W p l e R s m args below meth c Q T G nL pc lv st0 σ := by
  intro H locs ls hls hP hS
  have C' := C
  obtain ⟨hx, hb, hml, hret, hlk, hown, hts, hK, hG, hZ⟩ := C
  exact x_run (va_runSN (As := av) ⟨hx, hb, hml, hown, hts⟩ hM ⟨va_cnB n hts (x_goodIn hcode) rfl hrm.1 hrm.2 (hG.2.2.2.1 s hZ _ (List.mem_of_getElem? hl) rfl) (hts _ hini) hd hR, hts _ hi, trivial⟩ ⟨st_blind hG hX _, st_pre C' hX hx0 hP hS _⟩ rfl hn hls.1 hst (lv_room hcat) d ⟨Nat.zero_le _, Nat.zero_le _⟩) hS (fun H1 locs1 hP1 hS1 => k H1 locs1 ls hls hP1 hS1)
theorem st_callV (C : x_C p s m args meth c cc nL ret own T G) (hX : st_X T G X) (hx0 : X s) {y : MethodName} {b : ByteArray} {nL2 n index q : Nat} {ret2 : Option FieldType} {rm2 : Room} {rv : Option Value} {st0 : List Value} {av : List Value} (hM : st_M l T G y b nL2 ret2 rm2 (.ref q :: av) σ rv X) (hO : va_O y.cls q (x_A T G) s s.heap) (hl : Cond.methodLink own index y ∈ x_tbl) (hi : Cond.instanceMethod y ∈ x_tbl) (hs : Cond.selects y.cls y y ∈ x_tbl) (hini : Cond.initialized y.cls ∈ x_tbl) (hcode : Cond.code y b nL2 ret2 ∈ x_tbl) (hd : y.cls ≠ "java/lang/invoke/MethodHandle" ∧ y.cls ≠ "java/lang/invoke/VarHandle" ∧ (parseMethodDescriptor y.desc).map (fun d => d.parameters.length) = some n) (hn : av.length = n) (hR : rm2.frames + 1 ≤ R.frames ∧ 8 + (nL2 + 11) + rm2.locals ≤ R.locals) (hrm : rm2.cells = 0 ∧ rm2.slots = 0) (hst : st0 = av.reverse ++ .ref q :: st) (hcat : (st.map fun v => v.category).sum ≤ 8) (d : decode cc pc = .ok (.invokevirtual index, 3)) (k : x_W p l e R s m args below meth c Q T G nL (pc + 3) lv (rv.toList ++ st) σ) : x_W p l e R s m args below meth c Q T G nL pc lv st0 σ := by
  intro H locs ls hls hP hS
  have C' := C
  obtain ⟨hx, hb, hml, hret, hlk, hown, hts, hK, hG, hZ⟩ := C
  have hcell : ∃ cell : Cell, H[q]? = some cell ∧ cell.vm.isStatics = false ∧ s.vm.findClass y.cls = some cell.cls := by
    obtain ⟨cell, h1, h2, h3, -⟩ := hO.kept hS.2.1
    exact ⟨cell, h1, h2, h3⟩
  refine x_run (va_runV (As := av) ⟨hx, hb, hml, hown, hts⟩ hM (cwV n hts ?_ rfl hrm.1 hrm.2 ⟨rfl, hd⟩ hR) ⟨st_blind hG hX _, hcell, st_pre C' hX hx0 hP hS _⟩ rfl hn hls.1 hst (lv_room hcat) d ⟨Nat.zero_le _, Nat.zero_le _⟩) hS (fun H1 locs1 hP1 hS1 => k H1 locs1 ls hls hP1 hS1)
  intro w hw
  rcases List.mem_append.mp hw with h | h
  · have hm : w ∈ x_tbl := by
      simp only [List.mem_cons, List.not_mem_nil, or_false] at h
      rcases h with h | h | h | h <;> subst h <;> assumption
    exact ⟨hm, good_of_word (List.mem_filter.mp hm).2⟩
  · exact x_goodIn hcode w h
theorem st_gets (C : x_C p s m args meth c cc nL ret own T G) {Cn n d : String} {v : Value} {index : Nat} (hZ : va_Z Cn n d v (x_A T G) s s.heap) (hl : Cond.fieldLink own index Cn n d ∈ x_tbl) (dd : decode cc pc = .ok (.getstatic index, 3)) (k : x_W p l e R s m args below meth c Q T G nL (pc + 3) lv (v :: st) σ) : x_W p l e R s m args below meth c Q T G nL pc lv st σ :=
  fun H locs ls hls hP hS => va_gets C.1 C.2.1 hZ hS C.2.2.2.2.2.1 (C.2.2.2.2.2.2.1 _ hl) (fun _ h => h) dd (k H locs ls hls hP hS)
theorem st_getf (C : x_C p s m args meth c cc nL ret own T G) {Cn n d : String} {v : Value} {index q : Nat} (hE : va_OF Cn n d v q (x_A T G) s s.heap) (hl : Cond.fieldLink own index Cn n d ∈ x_tbl) (dd : decode cc pc = .ok (.getfield index, 3)) (k : x_W p l e R s m args below meth c Q T G nL (pc + 3) lv (v :: st) σ) : x_W p l e R s m args below meth c Q T G nL pc lv (.ref q :: st) σ :=
  fun H locs ls hls hP hS => vk_getf C.1 C.2.1 hE hS C.2.2.2.2.2.1 (C.2.2.2.2.2.2.1 _ hl) (fun _ h => h) dd (k H locs ls hls hP hS)
theorem st_len (C : x_C p s m args meth c cc nL ret own T G) {ty : FieldType} {a N : Nat} {f : Nat → Value} (hT : va_T ty a N f (x_A T G) s s.heap) {v : Int32} (hv : Int32.ofNat N = v) (dd : decode cc pc = .ok (.arraylength, 1)) (k : x_W p l e R s m args below meth c Q T G nL (pc + 1) lv (.int v :: st) σ) : x_W p l e R s m args below meth c Q T G nL pc lv (.ref a :: st) σ :=
  fun H locs ls hls hP hS => va_tlen C.1 C.2.1 hT hS hv dd (k H locs ls hls hP hS)
end XST
section XSM
variable {l : Launch} {T : x_Tb} {G : x_G} {σ : x_Hp} {q qv : Nat}
abbrev st_r (f lo : Nat) : Room := { frames := f, cells := 0, slots := 0, locals := lo }
theorem st_coder (hG : x_OK T G) : st_M l T G yJ0_coder_7d493 cJ0_coder_7d493 1 (some .byte) (st_r 0 0) [.ref q] σ (some (.int 0)) (st_S (x_A T G) q qv) := by
  refine st_M.of hG (lv := [(0, .ref q)]) (by decide) (Nat.le_of_ble_eq_true rfl) rfl (fun p e s m below meth c C hX => ?_)
  obtain ⟨h1, h2, h3, h4, h5, h6⟩ := hX
  refine st_gets C h1 (x_tb (i := 662) (by decide +kernel) rfl) dJ0_coder_7d493_0 ?_
  refine x_if_eq C 13 dJ0_coder_7d493_3 rfl (fun hc => absurd hc (by decide)) (fun _ => ?_)
  refine x_aload_n C 0 dJ0_coder_7d493_6 rfl rfl ?_
  refine st_getf C h2 (x_tb (i := 1821) (by decide +kernel) rfl) dJ0_coder_7d493_7 ?_
  refine x_goto C 14 dJ0_coder_7d493_10 rfl ?_
  exact x_zret C rfl dJ0_coder_7d493_14
theorem st_latin (hG : x_OK T G) : st_M l T G yJ0_isLatin1_aae02 cJ0_isLatin1_aae02 1 (some .boolean) (st_r 0 0) [.ref q] σ (some (.int 1)) (st_S (x_A T G) q qv) := by
  refine st_M.of hG (lv := [(0, .ref q)]) (by decide) (Nat.le_of_ble_eq_true rfl) rfl (fun p e s m below meth c C hX => ?_)
  obtain ⟨h1, h2, h3, h4, h5, h6⟩ := hX
  refine st_gets C h1 (x_tb (i := 662) (by decide +kernel) rfl) dJ0_isLatin1_aae02_0 ?_
  refine x_if_eq C 17 dJ0_isLatin1_aae02_3 rfl (fun hc => absurd hc (by decide)) (fun _ => ?_)
  refine x_aload_n C 0 dJ0_isLatin1_aae02_6 rfl rfl ?_
  refine st_getf C h2 (x_tb (i := 1821) (by decide +kernel) rfl) dJ0_isLatin1_aae02_7 ?_
  refine x_if_ne C 17 dJ0_isLatin1_aae02_10 rfl (fun hc => absurd rfl hc) (fun _ => ?_)
  refine x_iconst C (1 : Int32) dJ0_isLatin1_aae02_13 (by decide) ?_
  refine x_goto C 18 dJ0_isLatin1_aae02_14 rfl ?_
  exact x_zret C rfl dJ0_isLatin1_aae02_18
theorem st_length (hG : x_OK T G) : st_M l T G yJ0_length_8abf5 cJ0_length_8abf5 1 (some .int) (st_r 1 20) [.ref q] σ (some (.int 200)) (st_S (x_A T G) q qv) := by
  refine st_M.of hG (lv := [(0, .ref q)]) (by decide) (Nat.le_of_ble_eq_true rfl) rfl (fun p e s m below meth c C hX => ?_)
  have hX0 := hX
  obtain ⟨h1, h2, h3, h4, h5, h6⟩ := hX
  refine x_aload_n C 0 dJ0_length_8abf5_0 rfl rfl ?_
  refine st_getf C h3 (x_tb (i := 1820) (by decide +kernel) rfl) dJ0_length_8abf5_1 ?_
  refine st_len C h4 (v := 200) rfl dJ0_length_8abf5_4 ?_
  refine x_aload_n C 0 dJ0_length_8abf5_5 rfl rfl ?_
  refine st_callV C (n := 0) st_S.X hX0 (st_coder (qv := qv) hG) h5 (x_tb (i := 658) (by decide +kernel) rfl) (x_tb (i := 659) (by decide +kernel) rfl) (x_tb (i := 660) (by decide +kernel) rfl) (x_tb (i := 112) (by decide +kernel) rfl) (x_tb (i := 661) (by decide +kernel) rfl) (by decide +kernel) rfl ⟨Nat.le_of_ble_eq_true rfl, Nat.le_of_ble_eq_true rfl⟩ ⟨rfl, rfl⟩ rfl (Nat.le_of_ble_eq_true rfl) dJ0_length_8abf5_6 ?_
  refine x_ishr C dJ0_length_8abf5_9 ?_
  rw [show (200 : Int32) >>> ((0 : Int32) &&& 31) = 200 by decide]
  exact x_iret C dJ0_length_8abf5_10
theorem st_preck (hG : x_OK T G) {i n : Int32} {v : Value} (hv : v = .null ∨ ∃ t, v = .ref t) (h0 : ¬ i < 0) (hn : i < n) : st_M l T G yJ3_checkIndex_8e157 cJ3_checkIndex_8e157 3 (some .int) (st_r 0 0) [.int i, .int n, v] σ (some (.int i)) (st_S (x_A T G) q qv) := by
  have go : ∀ v : Value, (lg_sl [.int i, .int n, v]).length ≤ 3 → lv_args 0 [.int i, .int n, v] = [(0, .int i), (1, .int n), (2, v)] → st_M l T G yJ3_checkIndex_8e157 cJ3_checkIndex_8e157 3 (some .int) (st_r 0 0) [.int i, .int n, v] σ (some (.int i)) (st_S (x_A T G) q qv) := fun v hn3 hlv => by
    refine st_M.of hG (lv := [(0, .int i), (1, .int n), (2, v)]) (by decide) hn3 hlv (fun p e s m below meth c C hX => ?_)
    refine x_iload_n C 0 dJ3_checkIndex_8e157_0 rfl rfl ?_
    refine x_if_lt C 9 dJ3_checkIndex_8e157_1 rfl (fun hc => absurd hc h0) (fun _ => ?_)
    refine x_iload_n C 0 dJ3_checkIndex_8e157_4 rfl rfl ?_
    refine x_iload_n C 1 dJ3_checkIndex_8e157_5 rfl rfl ?_
    refine x_icmp_lt C 16 dJ3_checkIndex_8e157_6 rfl (fun _ => ?_) (fun hc => absurd hn hc)
    refine x_iload_n C 0 dJ3_checkIndex_8e157_16 rfl rfl ?_
    exact x_iret C dJ3_checkIndex_8e157_17
  rcases hv with rfl | ⟨t, rfl⟩
  · exact go _ (Nat.le_of_ble_eq_true rfl) rfl
  · exact go _ (Nat.le_of_ble_eq_true rfl) rfl
theorem st_check (hG : x_OK T G) {i n : Int32} (h0 : ¬ i < 0) (hn : i < n) : st_M l T G yJ0_checkIndex_df160 cJ0_checkIndex_df160 2 none (st_r 1 22) [.int i, .int n] σ none (st_S (x_A T G) q qv) := by
  refine st_M.of hG (lv := [(0, .int i), (1, .int n)]) (by decide) (Nat.le_of_ble_eq_true rfl) rfl (fun p e s m below meth c C hX => ?_)
  have hX0 := hX
  obtain ⟨h1, h2, h3, h4, h5, h6⟩ := hX
  refine x_iload_n C 0 dJ0_checkIndex_df160_0 rfl rfl ?_
  refine x_iload_n C 1 dJ0_checkIndex_df160_1 rfl rfl ?_
  have hv : ∃ v : Value, va_Z "jdk/internal/util/Preconditions" "SIOOBE_FORMATTER" "Ljava/util/function/BiFunction;" v (x_A T G) s s.heap ∧ (v = .null ∨ ∃ t, v = .ref t) := by
    rcases h6 with h | ⟨t, h⟩
    · exact ⟨_, h, Or.inl rfl⟩
    · exact ⟨_, h, Or.inr ⟨t, rfl⟩⟩
  obtain ⟨v, hz, hv⟩ := hv
  refine st_gets C hz (x_tb (i := 678) (by decide +kernel) rfl) dJ0_checkIndex_df160_2 ?_
  refine st_callS C (n := 3) st_S.X hX0 (st_preck (q := q) (qv := qv) hG hv h0 hn) (x_tb (i := 680) (by decide +kernel) rfl) (x_tb (i := 681) (by decide +kernel) rfl) (x_tb (i := 114) (by decide +kernel) rfl) (x_tb (i := 682) (by decide +kernel) rfl) (by decide +kernel) rfl ⟨Nat.le_of_ble_eq_true rfl, Nat.le_of_ble_eq_true rfl⟩ ⟨rfl, rfl⟩ rfl (Nat.le_of_ble_eq_true rfl) dJ0_checkIndex_df160_5 ?_
  refine x_pop C dJ0_checkIndex_df160_8 rfl ?_
  exact x_vret C dJ0_checkIndex_df160_9
theorem st_charL (hG : x_OK T G) {j : Nat} (hj : j < 200) : st_M l T G yJ1_charAt_3b067 cJ1_charAt_3b067 2 (some .char) (st_r 2 43) [.ref qv, .int (nI j)] σ (some (.int (nI (x_words.getD j 0)))) (st_S (x_A T G) q qv) := by
  refine st_M.of hG (lv := [(0, .ref qv), (1, .int (nI j))]) (by decide) (Nat.le_of_ble_eq_true rfl) rfl (fun p e s m below meth c C hX => ?_)
  have hX0 := hX
  obtain ⟨h1, h2, h3, h4, h5, h6⟩ := hX
  refine x_iload_n C 1 dJ1_charAt_3b067_0 rfl rfl ?_
  refine x_aload_n C 0 dJ1_charAt_3b067_1 rfl rfl ?_
  refine st_len C h4 (v := nI 200) rfl dJ1_charAt_3b067_2 ?_
  refine st_callS C (n := 2) st_S.X hX0 (st_check (q := q) (qv := qv) hG (nI_pos (by omega)) (nI_lt hj (by decide))) (x_tb (i := 675) (by decide +kernel) rfl) (x_tb (i := 676) (by decide +kernel) rfl) (x_tb (i := 112) (by decide +kernel) rfl) (x_tb (i := 677) (by decide +kernel) rfl) (by decide +kernel) rfl ⟨Nat.le_of_ble_eq_true rfl, Nat.le_of_ble_eq_true rfl⟩ ⟨rfl, rfl⟩ rfl (Nat.le_of_ble_eq_true rfl) dJ1_charAt_3b067_3 ?_
  refine x_aload_n C 0 dJ1_charAt_3b067_6 rfl rfl ?_
  refine x_iload_n C 1 dJ1_charAt_3b067_7 rfl rfl ?_
  intro H locs ls hls hP hS
  refine va_tb C.1 C.2.1 h4 hS (vp_in_nI hj (by decide)) (v := .int (st_byt.getD j 0)) (by rw [nI_clamp (by omega)]) dJ1_charAt_3b067_8 ?_
  revert H locs ls
  show x_W p l e (st_r 2 43) s m _ below meth c _ T G 2 9 _ [.int (st_byt.getD j 0)] σ
  refine x_sipush C (255 : Int32) dJ1_charAt_3b067_9 (by decide) ?_
  refine x_iand C dJ1_charAt_3b067_12 ?_
  refine x_i2c C dJ1_charAt_3b067_13 ?_
  rw [(st_wch j hj).1]
  exact x_zret C (st_wch j hj).2 dJ1_charAt_3b067_14
theorem st_char (hG : x_OK T G) {j : Nat} (hj : j < 200) : st_M l T G yJ0_charAt_5068e cJ0_charAt_5068e 2 (some .char) (st_r 3 64) [.ref q, .int (nI j)] σ (some (.int (nI (x_words.getD j 0)))) (st_S (x_A T G) q qv) := by
  refine st_M.of hG (lv := [(0, .ref q), (1, .int (nI j))]) (by decide) (Nat.le_of_ble_eq_true rfl) rfl (fun p e s m below meth c C hX => ?_)
  have hX0 := hX
  obtain ⟨h1, h2, h3, h4, h5, h6⟩ := hX
  refine x_aload_n C 0 dJ0_charAt_5068e_0 rfl rfl ?_
  refine st_callV C (n := 0) st_S.X hX0 (st_latin (qv := qv) hG) h5 (x_tb (i := 668) (by decide +kernel) rfl) (x_tb (i := 669) (by decide +kernel) rfl) (x_tb (i := 670) (by decide +kernel) rfl) (x_tb (i := 112) (by decide +kernel) rfl) (x_tb (i := 671) (by decide +kernel) rfl) (by decide +kernel) rfl ⟨Nat.le_of_ble_eq_true rfl, Nat.le_of_ble_eq_true rfl⟩ ⟨rfl, rfl⟩ rfl (Nat.le_of_ble_eq_true rfl) dJ0_charAt_5068e_1 ?_
  refine x_if_eq C 16 dJ0_charAt_5068e_4 rfl (fun hc => absurd hc (by decide)) (fun _ => ?_)
  refine x_aload_n C 0 dJ0_charAt_5068e_7 rfl rfl ?_
  refine st_getf C h3 (x_tb (i := 1820) (by decide +kernel) rfl) dJ0_charAt_5068e_8 ?_
  refine x_iload_n C 1 dJ0_charAt_5068e_11 rfl rfl ?_
  refine st_callS C (n := 2) st_S.X hX0 (st_charL (q := q) (qv := qv) hG hj) (x_tb (i := 672) (by decide +kernel) rfl) (x_tb (i := 673) (by decide +kernel) rfl) (x_tb (i := 113) (by decide +kernel) rfl) (x_tb (i := 674) (by decide +kernel) rfl) (by decide +kernel) rfl ⟨Nat.le_of_ble_eq_true rfl, Nat.le_of_ble_eq_true rfl⟩ ⟨rfl, rfl⟩ rfl (Nat.le_of_ble_eq_true rfl) dJ0_charAt_5068e_12 ?_
  exact x_zret C (st_wch j hj).2 dJ0_charAt_5068e_15
/-- at() on a static table -/
theorem st_at (hG : x_OK T G) {a : Nat} {f : Nat → Int32} {x : Int32} : st_M l T G yX8_at cX8_at 2 (some .int) (st_r 0 0) [.ref a, .int x] σ (some (.int (if x_inb x 7 = true then f (x_ix x) else 0))) (fun U => va_T .int a 7 (fun j => .int (f j)) (x_A T G) U U.heap) := by
  refine st_M.of hG (lv := [(0, .ref a), (1, .int x)]) (by decide) (Nat.le_of_ble_eq_true rfl) rfl (fun p e s m below meth c C hX => ?_)
  refine x_aload_n C 0 dX8_at_0 rfl rfl ?_
  refine x_ifnull C dX8_at_1 ?_
  refine x_iload_n C 1 dX8_at_4 rfl rfl ?_
  have hout : (x < 0 ∨ nI 7 ≤ x) → (if x_inb x 7 = true then f (x_ix x) else 0) = 0 := fun h => by
    rw [if_neg]
    intro q
    obtain ⟨j, hj, rfl⟩ := vp_in_of (x_inb_in q) (by decide)
    rcases h with h | h
    · exact nI_pos (by omega) h
    · exact nI_ge hj (by decide) h
  refine x_if_lt C 20 dX8_at_5 rfl (fun hc => ?_) (fun hc => ?_)
  · refine x_iconst C (0 : Int32) dX8_at_20 (by decide) ?_
    rw [hout (Or.inl hc)]
    exact x_iret C dX8_at_21
  · refine x_iload_n C 1 dX8_at_8 rfl rfl ?_
    refine x_aload_n C 0 dX8_at_9 rfl rfl ?_
    refine st_len C hX (v := nI 7) rfl dX8_at_10 ?_
    refine x_icmp_ge C 20 dX8_at_11 rfl (fun hc2 => ?_) (fun hc2 => ?_)
    · refine x_iconst C (0 : Int32) dX8_at_20 (by decide) ?_
      rw [hout (Or.inr hc2)]
      exact x_iret C dX8_at_21
    · refine x_aload_n C 0 dX8_at_14 rfl rfl ?_
      refine x_iload_n C 1 dX8_at_15 rfl rfl ?_
      obtain ⟨j, hj, rfl⟩ := nI_of hc
      have hj7 : j < 7 := by
        rcases Nat.lt_or_ge j 7 with q | q
        · exact q
        · exact absurd (nI_le q hj) hc2
      have hi : x_inb (nI j) 7 = true := by
        simp only [x_inb, Bool.not_eq_true', Bool.or_eq_false_iff, decide_eq_false_iff_not]
        exact ⟨nI_pos hj, by rw [nI_clamp hj]; omega⟩
      rw [if_pos hi]
      intro H locs ls hls hP hS
      refine va_ti C.1 C.2.1 hX hS (x_inb_in hi) (v := .int (f (x_ix (nI j)))) rfl dX8_at_16 ?_
      revert H locs ls
      show x_W p l e (st_r 0 0) s m _ below meth c _ T G 2 17 _ [.int (f (x_ix (nI j)))] σ
      refine x_goto C 21 dX8_at_17 rfl ?_
      exact x_iret C dX8_at_21
end XSM
section XST2
variable {p : Program} {l : Launch} {e : Env} {R : Room} {s : State} {m : MethodId} {args : Array Value} {below : List Frame} {meth : Method} {c : Code} {Q : State → Prop} {cc : ByteArray} {nL : Nat} {ret : Option FieldType} {T : x_Tb} {G : x_G} {pc : Nat} {lv : List (Nat × Value)} {st : List Value} {σ : x_Hp}
theorem x_sat_LEAST_TOLD (C : x_C p s m args meth c cc nL ret RX1 T G) (q : Nat) {f : Fin 4} {x : Int32} (hq : lv[q]? = some ((f : Nat), Value.int x)) (d1 : decode cc pc = .ok (.getstatic 64, 3)) (d2 : decode cc (pc + 3) = .ok (.iload_n f, 1)) (d3 : decode cc (pc + 4) = .ok (.invokestatic 48, 3)) (hR : 1 ≤ R.frames ∧ 22 ≤ R.locals) (hcat : (st.map fun v => v.category).sum ≤ 8) (k : x_W p l e R s m args below meth c Q T G nL (pc + 7) lv (.int (x_sv_LEAST_TOLD x) :: st) σ) : x_W p l e R s m args below meth c Q T G nL pc lv st σ := by
  have hG : x_OK T G := C.2.2.2.2.2.2.2.2.1
  obtain ⟨⟨a, z1, z2⟩, -⟩ := hG.2.2.2.2 s C.2.2.2.2.2.2.2.2.2
  refine st_gets C z1 (x_tb (i := 864) (by decide +kernel) rfl) d1 ?_
  refine x_iload_n C q d2 rfl hq ?_
  exact st_callSN C (n := 2) (X := fun U => va_T .int a 7 (fun j => .int (st_least.getD j 0)) (x_A T G) U U.heap) st_T.X z2 (st_at hG) (host := "BabyRound") (i := 796) (by decide +kernel) (x_tb (i := 541) (by decide +kernel) rfl) (x_tb (i := 102) (by decide +kernel) rfl) (x_tb (i := 542) (by decide +kernel) rfl) (by decide +kernel) rfl ⟨hR.1, by show 8 + (2 + 11) + 0 ≤ R.locals; omega⟩ ⟨rfl, rfl⟩ rfl hcat d3 k
theorem x_sat_MOST_TOLD_BY (C : x_C p s m args meth c cc nL ret RX1 T G) (q : Nat) {f : Fin 4} {x : Int32} (hq : lv[q]? = some ((f : Nat), Value.int x)) (d1 : decode cc pc = .ok (.getstatic 67, 3)) (d2 : decode cc (pc + 3) = .ok (.iload_n f, 1)) (d3 : decode cc (pc + 4) = .ok (.invokestatic 48, 3)) (hR : 1 ≤ R.frames ∧ 22 ≤ R.locals) (hcat : (st.map fun v => v.category).sum ≤ 8) (k : x_W p l e R s m args below meth c Q T G nL (pc + 7) lv (.int (x_sv_MOST_TOLD_BY x) :: st) σ) : x_W p l e R s m args below meth c Q T G nL pc lv st σ := by
  have hG : x_OK T G := C.2.2.2.2.2.2.2.2.1
  obtain ⟨-, ⟨a, z1, z2⟩, -⟩ := hG.2.2.2.2 s C.2.2.2.2.2.2.2.2.2
  refine st_gets C z1 (x_tb (i := 866) (by decide +kernel) rfl) d1 ?_
  refine x_iload_n C q d2 rfl hq ?_
  exact st_callSN C (n := 2) (X := fun U => va_T .int a 7 (fun j => .int (st_most.getD j 0)) (x_A T G) U U.heap) st_T.X z2 (st_at hG) (host := "BabyRound") (i := 796) (by decide +kernel) (x_tb (i := 541) (by decide +kernel) rfl) (x_tb (i := 102) (by decide +kernel) rfl) (x_tb (i := 542) (by decide +kernel) rfl) (by decide +kernel) rfl ⟨hR.1, by show 8 + (2 + 11) + 0 ≤ R.locals; omega⟩ ⟨rfl, rfl⟩ rfl hcat d3 k
theorem st_gd (b d : List Int32) : ([b] : List (List Int32)).getD 0 d = b := rfl
theorem st_gdn (b d : Nat) : ([b] : List Nat).getD 0 d = b := rfl
theorem st_Sof {A : Nat → Prop} {U : State} (h : st_Z A U) : ∃ q qv, st_S A q qv U ∧ vk_R RX4 117 st_text q U := by
  obtain ⟨-, -, h1, h2, adK, adV, h3, h4⟩ := h
  obtain ⟨g1, g2, g3, g4⟩ := h3.1 0 (by decide)
  rw [st_gd, st_gdn] at g4
  exact ⟨adK 0, adV 0, ⟨h1, g2, g3, g4, g1, h2⟩, h4⟩
theorem x_strLen (C : x_C p s m args meth c cc nL ret RX4 T G) (hR : 4 ≤ R.frames ∧ 85 ≤ R.locals) (hcat : (st.map fun v => v.category).sum ≤ 8) (d1 : decode cc pc = .ok (.ldc 117, 2)) (d2 : decode cc (pc + 2) = .ok (.invokevirtual 119, 3)) (k : x_W p l e R s m args below meth c Q T G nL (pc + 5) lv (.int 200 :: st) σ) : x_W p l e R s m args below meth c Q T G nL pc lv st σ := by
  have hG : x_OK T G := C.2.2.2.2.2.2.2.2.1
  obtain ⟨q, qv, hs, hr⟩ := st_Sof (hG.2.2.2.2 s C.2.2.2.2.2.2.2.2.2)
  have go : x_W p l e R s m args below meth c Q T G nL (pc + 2) lv (.ref q :: st) σ :=
    st_callV C (n := 0) st_S.X hs (st_length (qv := qv) hG) hs.2.2.2.2.1 (x_tb (i := 654) (by decide +kernel) rfl) (x_tb (i := 655) (by decide +kernel) rfl) (x_tb (i := 656) (by decide +kernel) rfl) (x_tb (i := 112) (by decide +kernel) rfl) (x_tb (i := 657) (by decide +kernel) rfl) (by decide +kernel) rfl ⟨by show 1 + 1 ≤ R.frames; omega, by show 8 + (1 + 11) + 20 ≤ R.locals; omega⟩ ⟨rfl, rfl⟩ rfl hcat d2 k
  exact fun H locs ls hls hP hS => va_ldcS C.1 C.2.1 C.2.2.2.2.2.1 hr d1 (go H locs ls hls hP hS)
theorem x_strChar (C : x_C p s m args meth c cc nL ret RX4 T G) (hR : 4 ≤ R.frames ∧ 85 ≤ R.locals) (hcat : (st.map fun v => v.category).sum ≤ 8) (q : Nat) {i2 : Nat} {x : Int32} (hq : lv[q]? = some (i2, Value.int x)) (hi : x_inb x 200 = true) (d1 : decode cc pc = .ok (.ldc 117, 2)) (d2 : decode cc (pc + 2) = .ok (.iload i2, 2)) (d3 : decode cc (pc + 4) = .ok (.invokevirtual 123, 3)) (k : x_W p l e R s m args below meth c Q T G nL (pc + 7) lv (.int (x_wch x) :: st) σ) : x_W p l e R s m args below meth c Q T G nL pc lv st σ := by
  have hG : x_OK T G := C.2.2.2.2.2.2.2.2.1
  obtain ⟨qa, qv, hs, hr⟩ := st_Sof (hG.2.2.2.2 s C.2.2.2.2.2.2.2.2.2)
  obtain ⟨j, hj, rfl⟩ := vp_in_of (x_inb_in hi) (by decide)
  have ew : x_wch (nI j) = nI (x_words.getD j 0) := by rw [x_wch, show x_ix (nI j) = j from nI_clamp (by omega)]
  rw [ew] at k
  have go : x_W p l e R s m args below meth c Q T G nL (pc + 2) lv (.ref qa :: st) σ := by
    refine x_iload C q d2 hq ?_
    exact st_callV C (n := 1) st_S.X hs (st_char (qv := qv) hG hj) hs.2.2.2.2.1 (x_tb (i := 664) (by decide +kernel) rfl) (x_tb (i := 665) (by decide +kernel) rfl) (x_tb (i := 666) (by decide +kernel) rfl) (x_tb (i := 112) (by decide +kernel) rfl) (x_tb (i := 667) (by decide +kernel) rfl) (by decide +kernel) rfl ⟨by show 3 + 1 ≤ R.frames; omega, by show 8 + (2 + 11) + 64 ≤ R.locals; omega⟩ ⟨rfl, rfl⟩ rfl hcat d3 k
  exact fun H locs ls hls hP hS => va_ldcS C.1 C.2.1 C.2.2.2.2.2.1 hr d1 (go H locs ls hls hP hS)
end XST2
