/-! THE WORLD: objects by small numbers; a number's cell lies at address ad o; ints at (o, k), longs likewise; references never change -/
abbrev x_Hp : Type := (Nat → Nat → Int32) × (Nat → Nat → Int64)
/-- how many, the kind of each, where its references lead, how long it is -/
abbrev x_Tb : Type := Nat × (Nat → Nat) × (Nat → Nat → Nat) × (Nat → Nat)
abbrev x_G : Type := va_G × (Nat → ClassId) × (Nat → Nat) × (State → Prop)
abbrev x_kd (T : x_Tb) : Nat → Nat := T.2.1
abbrev x_rf (T : x_Tb) : Nat → Nat → Nat := T.2.2.1
abbrev x_ln (T : x_Tb) : Nat → Nat := T.2.2.2
abbrev x_ad (G : x_G) : Nat → Nat := G.2.2.1
def x_u {α : Type} (f : Nat → α) (k : Nat) (v : α) : Nat → α := fun j => if j = k then v else f j
def x_pI (σ : x_Hp) (o k : Nat) (v : Int32) : x_Hp := (x_u σ.1 o (x_u (σ.1 o) k v), σ.2)
def x_pL (σ : x_Hp) (o k : Nat) (v : Int64) : x_Hp := (σ.1, x_u σ.2 o (x_u (σ.2 o) k v))
abbrev x_ix (i : Int32) : Nat := i.toNatClampNeg
def x_inb (i : Int32) (n : Nat) : Bool := !(decide (i < 0) || decide (n ≤ i.toNatClampNeg))
theorem x_inb_in {i : Int32} {n : Nat} (h : x_inb i n = true) : vp_in i n := by
  simp only [x_inb, Bool.not_eq_true', Bool.or_eq_false_iff, decide_eq_false_iff_not] at h
  exact fun q => q.elim h.1 h.2
def x_gd {α : Type} (b : Bool) (k : Option α) : Option α := if b = true then k else none
theorem x_gd_some {α : Type} {b : Bool} {k : Option α} {y : α} (h : x_gd b k = some y) : b = true ∧ k = some y := by
  unfold x_gd at h
  split at h
  · exact ⟨by assumption, h⟩
  · cases h
def x_b {α β : Type} (x : Option (α × x_Hp)) (f : α → x_Hp → Option β) : Option β := match x with
  | none => none
  | some q => f q.1 q.2
theorem x_b_some {α β : Type} {x : Option (α × x_Hp)} {f : α → x_Hp → Option β} {y : β} (h : x_b x f = some y) : ∃ (a : α) (σ : x_Hp), x = some (a, σ) ∧ f a σ = some y := by
  cases x with
  | none => cases h
  | some q => exact ⟨q.1, q.2, rfl, h⟩
theorem x_ret {α : Type} {a b : α} {σ τ : x_Hp} (h : some (a, σ) = some (b, τ)) : a = b ∧ σ = τ := by
  cases h; exact ⟨rfl, rfl⟩
def x_tbl : List Cond := lw_tbl.filter goodWord
def x_isNest : Cond → Bool
  | .methodLinkNest .. => true
  | _ => false
theorem x_tb {i : Nat} {w : Cond} (h : lw_tbl[i]? = some w) (hg : goodWord w = true) : w ∈ x_tbl := List.mem_filter.mpr ⟨List.mem_of_getElem? h, hg⟩
theorem x_goodIn {y : MethodName} {b : ByteArray} {nL : Nat} {ret : Option FieldType} (h : Cond.code y b nL ret ∈ x_tbl) : GoodIn x_tbl (.code y b nL ret :: x_tbl) := by
  intro w hw
  have hm : w ∈ x_tbl := by
    rcases List.mem_cons.mp hw with e | e
    · rw [e]; exact h
    · exact e
  exact ⟨hm, good_of_word (List.mem_filter.mp hm).2⟩
/-! the cells -/
def x_nf (ci : Nat) : Nat := [1, 8, 3, 12, 13, 21, 15, 4, 14, 73].getD ci 0
def x_isR (ci k : Nat) : Bool := match (vwCl[ci]?).map (fun q => (q.2.1 k).2.2.1) with
  | some "I" => false
  | some "Z" => false
  | _ => true
def x_fs (ci : Nat) (r : Nat → Value) (v : Nat → Int32) : List Value := (List.range (x_nf ci)).map (fun k => if x_isR ci k = true then r k else .int (v k))
def x_ai (k : Nat) : Nat := k - 10
def x_E (T : x_Tb) (G : x_G) (σ : x_Hp) (o : Nat) : va_E :=
  if x_kd T o < 10 then .inr (x_kd T o, x_fs (x_kd T o) (fun k => .ref (x_ad G (x_rf T o k))) (σ.1 o))
  else if x_kd T o = 13 then .inl (G.2.1 3, x_ln T o, .inr (.inl (σ.2 o)))
  else if x_kd T o = 15 then .inl (G.2.1 5, x_ln T o, .inr (.inr (.inr (.inr (fun j => some (x_ad G (x_rf T o j)))))))
  else .inl (G.2.1 (x_ai (x_kd T o)), x_ln T o, .inl (σ.1 o))
def x_ws (T : x_Tb) (G : x_G) (σ : x_Hp) : va_W := (List.range T.1).map (fun o => (x_ad G o, x_E T G σ o))
abbrev x_tys (G : x_G) : List (ClassId × FieldType) := [(G.2.1 0, .byte), (G.2.1 1, .char), (G.2.1 2, .int), (G.2.1 3, .long), (G.2.1 4, .boolean), (G.2.1 5, .object "BabyRound$State")]
/-- the cells that may change -/
def x_A (T : x_Tb) (G : x_G) : Nat → Prop := fun q => ∃ o, o < T.1 ∧ q = x_ad G o
/-- the statics and the text that nobody writes -/
def st_least : List Int32 := [-9, -9, -9, -9, 0, 0, 0]
def st_most : List Int32 := [9, 9, 9, 9, 99, 1, 100]
def st_text : String := "baby    aunt    hungers tires   wonders winds   cries   sleeps  spits   fresh   feeds   seed    sits    if      then    else    hunger  tired   wonder  wind    held    rock    show    beard   seen    "
def st_byt : List Int32 := st_text.toList.map (fun c => Int32.ofNat c.toNat)
def st_Z (A : Nat → Prop) (U : State) : Prop := (∃ a1 : Nat, va_Z "BabyRound$Laws" "LEAST_TOLD" "[I" (.ref a1) A U U.heap ∧ va_T .int a1 7 (fun j => .int (st_least.getD j 0)) A U U.heap) ∧ (∃ a2 : Nat, va_Z "BabyRound$Laws" "MOST_TOLD_BY" "[I" (.ref a2) A U U.heap ∧ va_T .int a2 7 (fun j => .int (st_most.getD j 0)) A U U.heap) ∧ va_Z "java/lang/String" "COMPACT_STRINGS" "Z" (.int 1) A U U.heap ∧ va_Zq "jdk/internal/util/Preconditions" "SIOOBE_FORMATTER" "Ljava/util/function/BiFunction;" A U U.heap ∧ ∃ adK adV : Nat → Nat, vk_S 1 [200] [st_byt] adK adV A U U.heap ∧ vk_R "BabyRound$Reader" 117 st_text (adK 0) U
def x_OK (T : x_Tb) (G : x_G) : Prop := (∀ o, x_kd T o < 16 ↔ o < T.1) ∧ (∀ i j, i < T.1 → j < T.1 → x_ad G i = x_ad G j → i = j) ∧ (∀ (s U : State), G.2.2.2 s → s.WarmedH U.vm → s.heap.size ≤ U.heap.size → (∀ q : Nat, q < s.heap.size → ¬ x_A T G q → U.heap[q]? = s.heap[q]?) → G.2.2.2 U) ∧ (∀ U : State, G.2.2.2 U → ∀ w ∈ lw_tbl, x_isNest w = true → va_Nw w U) ∧ ∀ U : State, G.2.2.2 U → st_Z (x_A T G) U
abbrev x_PW (T : x_Tb) (G : x_G) (σ : x_Hp) (H : Heap) : Prop := va_P G.1 vwCl (x_ws T G σ) H
theorem x_ws_at (T : x_Tb) (G : x_G) (σ : x_Hp) {o : Nat} (h : o < T.1) : (x_ws T G σ)[o]? = some (x_ad G o, x_E T G σ o) := by
  simp [x_ws, h]
theorem x_ws_len (T : x_Tb) (G : x_G) (σ : x_Hp) : (x_ws T G σ).length = T.1 := by simp [x_ws]
theorem x_ws_set (T : x_Tb) (G : x_G) (σ τ : x_Hp) {o : Nat} (e : va_E) (h1 : x_E T G τ o = e) (h2 : ∀ j, j ≠ o → x_E T G τ j = x_E T G σ j) : (x_ws T G σ).set o (x_ad G o, e) = x_ws T G τ := by
  apply List.ext_getElem?
  intro k
  rw [List.getElem?_set]
  by_cases hk : k < T.1
  · rw [x_ws_at T G τ hk]
    by_cases ho : o = k
    · subst ho
      rw [if_pos rfl, if_pos (by rw [x_ws_len]; exact hk), h1]
    · rw [if_neg ho, x_ws_at T G σ hk, h2 k (fun q => ho q.symm)]
  · have hn : (x_ws T G τ)[k]? = none := List.getElem?_eq_none (by rw [x_ws_len]; omega)
    have hn2 : (x_ws T G σ)[k]? = none := List.getElem?_eq_none (by rw [x_ws_len]; omega)
    rw [hn, hn2]
    by_cases ho : o = k
    · subst ho
      rw [if_pos rfl, if_neg (by rw [x_ws_len]; exact hk)]
    · rw [if_neg ho]
theorem x_fs_get {ci k : Nat} (r : Nat → Value) (v : Nat → Int32) (h : k < x_nf ci) : (x_fs ci r v)[k]? = some (if x_isR ci k = true then r k else .int (v k)) := by
  simp [x_fs, h]
theorem x_fs_set {ci k : Nat} (r : Nat → Value) (v : Nat → Int32) (x : Int32) (hr : x_isR ci k = false) : (x_fs ci r v).set k (.int x) = x_fs ci r (x_u v k x) := by
  apply List.ext_getElem?
  intro j
  rw [List.getElem?_set]
  by_cases hj : j < x_nf ci
  · rw [x_fs_get _ _ hj, x_fs_get _ _ hj]
    by_cases e : k = j
    · subst e
      rw [if_pos rfl, if_pos (by simp [x_fs, hj]), hr]
      simp [x_u]
    · rw [if_neg e]
      simp [x_u, Ne.symm e]
  · have hn : ∀ v, (x_fs ci r v)[j]? = none := fun v => List.getElem?_eq_none (by simp [x_fs]; omega)
    rw [hn, hn]
    by_cases e : k = j
    · subst e
      rw [if_pos rfl, if_neg (by simp [x_fs, hj])]
    · rw [if_neg e]
theorem x_E_o {T : x_Tb} {G : x_G} {σ : x_Hp} {o ci : Nat} (h : x_kd T o = ci) (hc : ci < 10) : x_E T G σ o = .inr (ci, x_fs ci (fun k => .ref (x_ad G (x_rf T o k))) (σ.1 o)) := by
  subst h; simp [x_E, hc]
theorem x_E_i {T : x_Tb} {G : x_G} {σ : x_Hp} {o kk : Nat} (h : x_kd T o = kk) (hc : 10 ≤ kk) (h3 : kk ≠ 13) (h5 : kk ≠ 15) : x_E T G σ o = .inl (G.2.1 (x_ai kk), x_ln T o, .inl (σ.1 o)) := by
  subst h; simp [x_E, h3, h5, Nat.not_lt.mpr hc]
theorem x_E_l {T : x_Tb} {G : x_G} {σ : x_Hp} {o : Nat} (h : x_kd T o = 13) : x_E T G σ o = .inl (G.2.1 3, x_ln T o, .inr (.inl (σ.2 o))) := by
  simp [x_E, h]
theorem x_E_q {T : x_Tb} {G : x_G} {σ : x_Hp} {o : Nat} (h : x_kd T o = 15) : x_E T G σ o = .inl (G.2.1 5, x_ln T o, .inr (.inr (.inr (.inr (fun j => some (x_ad G (x_rf T o j))))))) := by
  simp [x_E, h]
theorem x_E_pI {T : x_Tb} {G : x_G} {σ : x_Hp} {o k : Nat} {v : Int32} {j : Nat} (h : j ≠ o) : x_E T G (x_pI σ o k v) j = x_E T G σ j := by
  simp [x_E, x_pI, x_u, h]
theorem x_E_pL {T : x_Tb} {G : x_G} {σ : x_Hp} {o k : Nat} {v : Int64} {j : Nat} (h : j ≠ o) : x_E T G (x_pL σ o k v) j = x_E T G σ j := by
  simp [x_E, x_pL, x_u, h]
theorem x_vaD {T : x_Tb} {G : x_G} (hG : x_OK T G) (σ : x_Hp) : va_D (x_A T G) (x_ws T G σ) := by
  have at' : ∀ (i : Nat) (p : Nat × va_E), (x_ws T G σ)[i]? = some p → i < T.1 ∧ p.1 = x_ad G i := by
    intro i p h
    have hi : i < T.1 := by
      have := (List.getElem?_eq_some_iff.mp h).1
      rwa [x_ws_len] at this
    rw [x_ws_at T G σ hi] at h
    cases h
    exact ⟨hi, rfl⟩
  refine ⟨fun i j p q hi hj e => ?_, fun k q hk => ?_⟩
  · obtain ⟨h1, e1⟩ := at' i p hi
    obtain ⟨h2, e2⟩ := at' j q hj
    exact hG.2.1 i j h1 h2 (by rw [← e1, ← e2]; exact e)
  · obtain ⟨h1, e1⟩ := at' k q hk
    exact ⟨k, h1, e1⟩
/-! the contract of a method, and the judgement inside of one -/
def x_Q (T : x_Tb) (G : x_G) (rv : Option Value) (σ : x_Hp) : Array Value → State → Outcome → State → Prop := fun _ st oc t => oc = .returned rv ∧ x_PW T G σ t.heap ∧ va_F (x_A T G) st t
def x_Pr (T : x_Tb) (G : x_G) (σ : x_Hp) (U : State) : Prop := x_PW T G σ U.heap ∧ va_K G.1 vwCl (x_tys G) U ∧ G.2.2.2 U
def x_M (l : Launch) (T : x_Tb) (G : x_G) (y : MethodName) (b : ByteArray) (nL : Nat) (ret : Option FieldType) (rm : Room) (av : List Value) (σ : x_Hp) (rv : Option Value) (τ : x_Hp) : Prop :=
  Met l y (.code y b nL ret :: x_tbl) rm (va_Pc av (x_Pr T G σ)) (x_Q T G rv τ) 0 0 (x_A T G)
/-- what holds all through a method's body -/
def x_C (p : Program) (s : State) (m : MethodId) (args : Array Value) (meth : Method) (c : Code) (cc : ByteArray) (nL : Nat) (ret : Option FieldType) (own : String) (T : x_Tb) (G : x_G) : Prop :=
  p.tables.exec = Jvm.exec ∧ c.code = cc ∧ c.maxLocals = nL ∧ meth.sig.returnType = ret ∧ meth.locks = false ∧ s.vm.findClass own = some m.cls ∧ (∀ w ∈ x_tbl, w.before args s = true) ∧ va_K G.1 vwCl (x_tys G) s ∧ x_OK T G ∧ G.2.2.2 s
def x_W (p : Program) (l : Launch) (e : Env) (R : Room) (s : State) (m : MethodId) (args : Array Value) (below : List Frame) (meth : Method) (c : Code) (Q : State → Prop) (T : x_Tb) (G : x_G) (nL pc : Nat) (lv : List (Nat × Value)) (st : List Value) (σ : x_Hp) : Prop :=
  ∀ (H : Heap) (locs : List Loc) (ls : Array Slot), lv_has ls nL lv → x_PW T G σ H → va_S (x_A T G) s.heap H locs → W p l e R s m args below meth c H locs 0 0 Q (F0 m pc ls st)
theorem x_M.of {l : Launch} {T : x_Tb} {G : x_G} (hG : x_OK T G) {y : MethodName} {b : ByteArray} {nL : Nat} {ret : Option FieldType} {rm : Room} {av : List Value} {σ : x_Hp} {rv : Option Value} {τ : x_Hp} {lv : List (Nat × Value)} (hy : plainName y.cls = true) (hn : (lg_sl av).length ≤ nL) (hlv : lv_args 0 av = lv)
    (body : ∀ (p : Program) (e : Env) (s : State) (m : MethodId) (below : List Frame) (meth : Method) (c : Code), x_C p s m av.toArray meth c b nL ret y.cls T G → x_W p l e rm s m av.toArray below meth c (MQ below (x_Q T G rv τ) av.toArray s 0 0 (x_A T G)) T G nL 0 lv [] σ) : x_M l T G y b nL ret rm av σ rv τ := by
  unfold x_M
  refine Met.ofW (cc := b) (maxL := nL) (ret := ret) hy rfl ?_
  intro p e s m args below meth c s₁ B hml hv
  obtain ⟨rfl, hP, hK, hZ⟩ := hv
  have hts := atoms_spec (ws := .code y b nL ret :: x_tbl) B.pre
  have hown : s.vm.findClass y.cls = some m.cls := findClass_of_methodNamed B.named
  have hl := lv_entry av (n := nL) hn
  rw [lg_entry_eq]
  rw [hlv] at hl
  exact body p e s m below meth c ⟨B.exec, B.bytes, hml, B.returns, B.notSynchronized, hown, fun w hw => hts w (List.mem_cons_of_mem _ hw), hK, hG, hZ⟩ s.heap [] _ hl hP va_S.rf
