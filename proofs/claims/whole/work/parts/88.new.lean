/-! CONSTRUCTION: worlds that grow; references are told by the objects' numbers -/
abbrev zw_v : Type := Option Nat ⊕ Value
def zw_r (ad : Nat → Nat) : zw_v → Value
  | .inl none => .null
  | .inl (some j) => .ref (ad j)
  | .inr v => v
def zw_b (n : Nat) : zw_v → Bool
  | .inl none => true
  | .inl (some j) => decide (j < n)
  | .inr _ => true
abbrev zw_R : Type := Nat → Nat → Option Nat
def zw_E (T : x_Tb) (iC : Nat → ClassId) (ad : Nat → Nat) (rq : zw_R) (σ : x_Hp) (o : Nat) : va_E :=
  if x_kd T o < 10 then .inr (x_kd T o, x_fs (x_kd T o) (fun k => zw_r ad (.inl (rq o k))) (σ.1 o))
  else if x_kd T o = 13 then .inl (iC 3, x_ln T o, .inr (.inl (σ.2 o)))
  else if x_kd T o = 15 then .inl (iC 5, x_ln T o, .inr (.inr (.inr (.inr (fun j => (rq o j).map ad)))))
  else .inl (iC (x_ai (x_kd T o)), x_ln T o, .inl (σ.1 o))
def zw_ws (T : x_Tb) (iC : Nat → ClassId) (ad : Nat → Nat) (rq : zw_R) (σ : x_Hp) (n : Nat) : va_W := (List.range n).map (fun o => (ad o, zw_E T iC ad rq σ o))
def zw_u (rq : zw_R) (o k j : Nat) : zw_R := fun a b => if a = o ∧ b = k then some j else rq a b
/-- refs lead to objects that are there; what isn't there is empty -/
def zw_cl (n : Nat) (rq : zw_R) (σ : x_Hp) : Prop := (∀ o k j, rq o k = some j → j < n) ∧ ∀ o k, n ≤ o → rq o k = none ∧ σ.1 o k = 0 ∧ σ.2 o k = 0
def zw_OK (b0 : Nat) (Z : State → Prop) : Prop := (∀ s U : State, Z s → s.WarmedH U.vm → s.heap.size ≤ U.heap.size → (∀ q : Nat, q < s.heap.size → q < b0 → U.heap[q]? = s.heap[q]?) → Z U) ∧ (∀ U : State, Z U → ∀ w ∈ lw_tbl, x_isNest w = true → va_Nw w U) ∧ (∀ U : State, Z U → st_Z (fun q => b0 ≤ q) U) ∧ ∀ U : State, Z U → va_AO "BabyRound$State" U
abbrev zw_A (b0 : Nat) : Nat → Prop := fun q => b0 ≤ q
abbrev zw_ty (iC : Nat → ClassId) : List (ClassId × FieldType) := [(iC 0, .byte), (iC 1, .char), (iC 2, .int), (iC 3, .long), (iC 4, .boolean), (iC 5, .object "BabyRound$State")]
def zw_C (p : Program) (s : State) (m : MethodId) (args : Array Value) (meth : Method) (c : Code) (cc : ByteArray) (nL : Nat) (own : String) (D : va_G) (iC : Nat → ClassId) (b0 : Nat) (Z : State → Prop) : Prop :=
  p.tables.exec = Jvm.exec ∧ c.code = cc ∧ c.maxLocals = nL ∧ meth.sig.returnType = none ∧ meth.locks = false ∧ s.vm.findClass own = some m.cls ∧ (∀ w ∈ x_tbl, w.before args s = true) ∧ va_K D vwCl (zw_ty iC) s ∧ zw_OK b0 Z ∧ Z s ∧ b0 ≤ s.heap.size ∧ meth.name = "<init>"
def zw_W (p : Program) (l : Launch) (e : Env) (R : Room) (s : State) (m : MethodId) (args : Array Value) (below : List Frame) (meth : Method) (c : Code) (Q : State → Prop) (D : va_G) (iC : Nat → ClassId) (T : x_Tb) (b0 n0 : Nat) (ad0 : Nat → Nat) (nL pc : Nat) (lv : List (Nat × zw_v)) (st : List zw_v) (n : Nat) (rq : zw_R) (σ : x_Hp) (mc ms : Nat) : Prop :=
  ∀ (ad : Nat → Nat) (H : Heap) (locs : List Loc) (ls : Array Slot), (∀ i, i < n0 → ad i = ad0 i) → n0 ≤ n → zw_cl n rq σ → lv_has ls nL (lv.map (fun q => (q.1, zw_r ad q.2))) → va_P D vwCl (zw_ws T iC ad rq σ n) H → va_D (zw_A b0) (zw_ws T iC ad rq σ n) → va_S (zw_A b0) s.heap H locs → W p l e R s m args below meth c H locs mc ms Q (F0 m pc ls (st.map (zw_r ad)))
def zw_Pr (D : va_G) (iC : Nat → ClassId) (T : x_Tb) (b0 : Nat) (Z : State → Prop) (n : Nat) (ad : Nat → Nat) (rq : zw_R) (σ : x_Hp) (U : State) : Prop := va_P D vwCl (zw_ws T iC ad rq σ n) U.heap ∧ va_D (zw_A b0) (zw_ws T iC ad rq σ n) ∧ va_K D vwCl (zw_ty iC) U ∧ Z U ∧ b0 ≤ U.heap.size
def zw_B (D : va_G) (iC : Nat → ClassId) (T : x_Tb) (b0 n : Nat) (rq : zw_R) (σ : x_Hp) (ad : Nat → Nat) (t : State) : Prop := va_P D vwCl (zw_ws T iC ad rq σ n) t.heap ∧ va_D (zw_A b0) (zw_ws T iC ad rq σ n)
def zw_Q (D : va_G) (iC : Nat → ClassId) (T : x_Tb) (b0 n0 n : Nat) (ad0 : Nat → Nat) (rq : zw_R) (σ : x_Hp) : Array Value → State → Outcome → State → Prop := va_Qv (fun ad : Nat → Nat => ∀ i, i < n0 → ad i = ad0 i) (zw_B D iC T b0 n rq σ) (zw_A b0)
def zw_M (l : Launch) (D : va_G) (iC : Nat → ClassId) (T : x_Tb) (b0 : Nat) (Z : State → Prop) (y : MethodName) (b : ByteArray) (nL : Nat) (rm : Room) (mc ms : Nat) (av : List zw_v) (n : Nat) (rq : zw_R) (σ : x_Hp) (n' : Nat) (rq' : zw_R) (σ' : x_Hp) : Prop :=
  zw_cl n rq σ → (n ≤ n' ∧ zw_cl n' rq' σ') ∧ ∀ ad0 : Nat → Nat, Met l y (.code y b nL none :: x_tbl) rm (va_Pc (av.map (zw_r ad0)) (zw_Pr D iC T b0 Z n ad0 rq σ)) (zw_Q D iC T b0 n n' ad0 rq' σ') mc ms (zw_A b0)
theorem zw_at {T : x_Tb} {iC : Nat → ClassId} {ad : Nat → Nat} {rq : zw_R} {σ : x_Hp} {n o : Nat} (h : o < n) : (zw_ws T iC ad rq σ n)[o]? = some (ad o, zw_E T iC ad rq σ o) := by
  simp [zw_ws, h]
theorem zw_len {T : x_Tb} {iC : Nat → ClassId} {ad : Nat → Nat} {rq : zw_R} {σ : x_Hp} {n : Nat} : (zw_ws T iC ad rq σ n).length = n := by simp [zw_ws]
theorem zw_set {T : x_Tb} {iC : Nat → ClassId} {ad : Nat → Nat} {rq rq2 : zw_R} {σ σ2 : x_Hp} {n o : Nat} {e : va_E} (h1 : zw_E T iC ad rq2 σ2 o = e) (h2 : ∀ j, j ≠ o → zw_E T iC ad rq2 σ2 j = zw_E T iC ad rq σ j) : (zw_ws T iC ad rq σ n).set o (ad o, e) = zw_ws T iC ad rq2 σ2 n := by
  apply List.ext_getElem?
  intro k
  rw [List.getElem?_set]
  by_cases hk : k < n
  · rw [zw_at hk]
    by_cases ho : o = k
    · subst ho
      rw [if_pos rfl, if_pos (by rw [zw_len]; exact hk), zw_at hk, h1]
    · rw [if_neg ho, zw_at hk, h2 k (fun q => ho q.symm)]
  · have hn : (zw_ws T iC ad rq2 σ2 n)[k]? = none := List.getElem?_eq_none (by rw [zw_len]; omega)
    have hn2 : (zw_ws T iC ad rq σ n)[k]? = none := List.getElem?_eq_none (by rw [zw_len]; omega)
    rw [hn, hn2]
    by_cases ho : o = k
    · subst ho
      rw [if_pos rfl, if_neg (by rw [zw_len]; exact hk)]
    · rw [if_neg ho]
theorem zw_ext {ad ad' : Nat → Nat} {n : Nat} (h : ∀ i, i < n → ad' i = ad i) {v : zw_v} (hv : zw_b n v = true) : zw_r ad' v = zw_r ad v := by
  rcases v with (_ | j) | v
  · rfl
  · have : j < n := of_decide_eq_true hv
    show Value.ref (ad' j) = .ref (ad j)
    rw [h j this]
  · rfl
theorem zw_extS {ad ad' : Nat → Nat} {n : Nat} (h : ∀ i, i < n → ad' i = ad i) {st : List zw_v} (hv : st.all (zw_b n) = true) : st.map (zw_r ad') = st.map (zw_r ad) :=
  List.map_congr_left (fun v hm => zw_ext h (List.all_eq_true.mp hv v hm))
theorem zw_extL {ad ad' : Nat → Nat} {n : Nat} (h : ∀ i, i < n → ad' i = ad i) {lv : List (Nat × zw_v)} (hv : lv.all (fun q => zw_b n q.2) = true) : lv.map (fun q => (q.1, zw_r ad' q.2)) = lv.map (fun q => (q.1, zw_r ad q.2)) :=
  List.map_congr_left (fun q hm => by rw [zw_ext h (List.all_eq_true.mp hv q hm)])
theorem zw_extE {T : x_Tb} {iC : Nat → ClassId} {ad ad' : Nat → Nat} {rq : zw_R} {σ : x_Hp} {n : Nat} (hcl : zw_cl n rq σ) (h : ∀ i, i < n → ad' i = ad i) (o : Nat) : zw_E T iC ad' rq σ o = zw_E T iC ad rq σ o := by
  have e1 : (fun k => zw_r ad' (.inl (rq o k))) = fun k => zw_r ad (.inl (rq o k)) := by
    funext k
    cases hq : rq o k with
    | none => rfl
    | some j => show Value.ref (ad' j) = .ref (ad j); rw [h j (hcl.1 o k j hq)]
  have e2 : (fun j => (rq o j).map ad') = fun j => (rq o j).map ad := by
    funext k
    cases hq : rq o k with
    | none => rfl
    | some j => show some (ad' j) = some (ad j); rw [h j (hcl.1 o k j hq)]
  rw [zw_E, zw_E, e1, e2]
theorem zw_push {T : x_Tb} {iC : Nat → ClassId} {ad : Nat → Nat} {rq : zw_R} {σ : x_Hp} {n q : Nat} (hcl : zw_cl n rq σ) : zw_ws T iC ad rq σ n ++ [(q, zw_E T iC (x_u ad n q) rq σ n)] = zw_ws T iC (x_u ad n q) rq σ (n + 1) := by
  have hx : ∀ i, i < n → x_u ad n q i = ad i := fun i hi => by simp [x_u, Nat.ne_of_lt hi]
  rw [zw_ws, zw_ws, List.range_succ, List.map_append]
  congr 1
  · refine List.map_congr_left (fun o ho => ?_)
    rw [hx o (List.mem_range.mp ho), zw_extE hcl hx]
  · show [(q, _)] = [(x_u ad n q n, _)]
    simp [x_u]
theorem zw_clU {n o k j : Nat} {rq : zw_R} {σ : x_Hp} (h : zw_cl n rq σ) (ho : o < n) (hj : j < n) : zw_cl n (zw_u rq o k j) σ := by
  refine ⟨fun a b i e => ?_, fun a b ha => ?_⟩
  · rw [zw_u] at e
    split at e
    · cases e; exact hj
    · exact h.1 a b i e
  · rw [zw_u, if_neg (by omega)]
    exact h.2 a b ha
theorem zw_clI {n o k : Nat} {x : Int32} {rq : zw_R} {σ : x_Hp} (h : zw_cl n rq σ) (ho : o < n) : zw_cl n rq (x_pI σ o k x) := by
  refine ⟨h.1, fun a b ha => ⟨(h.2 a b ha).1, ?_, (h.2 a b ha).2.2⟩⟩
  rw [x_pI_1, if_neg (by omega)]
  exact (h.2 a b ha).2.1
theorem zw_clN {n : Nat} {rq : zw_R} {σ : x_Hp} (h : zw_cl n rq σ) : zw_cl (n + 1) rq σ := ⟨fun o k j e => Nat.lt_succ_of_lt (h.1 o k j e), fun o k ho => h.2 o k (by omega)⟩
theorem zw_fsR {ci k : Nat} (r : Nat → Value) (v : Nat → Int32) (w : Value) (hr : x_isR ci k = true) : (x_fs ci r v).set k w = x_fs ci (x_u r k w) v := by
  apply List.ext_getElem?
  intro j
  rw [List.getElem?_set]
  by_cases hj : j < x_nf ci
  · rw [x_fs_get _ _ hj, x_fs_get _ _ hj]
    by_cases e : k = j
    · subst e
      rw [if_pos rfl, if_pos (by simp [x_fs, hj]), hr]
      simp [x_u]
    · rw [if_neg e]
      simp [x_u, Ne.symm e]
  · have hn : ∀ r, (x_fs ci r v)[j]? = none := fun r => List.getElem?_eq_none (by simp [x_fs]; omega)
    rw [hn, hn]
    by_cases e : k = j
    · subst e
      rw [if_pos rfl, if_neg (by simp [x_fs, hj])]
    · rw [if_neg e]
theorem zw_ra {U : State} {cA cB : ClassId} {ty : FieldType} (h1 : va_RA U cA ty) (h2 : va_RA U cB ty) : cA = cB := by
  cases ty with
  | object C =>
    obtain ⟨k1, c1, a1, a2, a3, a4⟩ := h1
    obtain ⟨k2, c2, b1, b2, b3, b4⟩ := h2
    exact Option.some.inj (a4.symm.trans b4)
  | _ =>
    have a : U.vm.findClass _ = some cA := h1
    have b : U.vm.findClass _ = some cB := h2
    exact Option.some.inj (a.symm.trans b)
section ZROWS
variable {p : Program} {l : Launch} {e : Env} {R : Room} {s : State} {m : MethodId} {args : Array Value} {below : List Frame} {meth : Method} {c : Code} {Q : State → Prop} {cc : ByteArray} {nL : Nat} {own : String} {D : va_G} {iC : Nat → ClassId} {T : x_Tb} {b0 n0 : Nat} {ad0 : Nat → Nat} {Z : State → Prop} {pc : Nat} {lv : List (Nat × zw_v)} {st : List zw_v} {n : Nat} {rq : zw_R} {σ : x_Hp} {mc ms : Nat}
theorem zw_aload (C : zw_C p s m args meth c cc nL own D iC b0 Z) {f : Fin 4} (q : Nat) {j : Nat} (d : decode cc pc = .ok (.aload_n f, 1)) (hq : lv[q]? = some ((f : Nat), .inl (some j))) (k : zw_W p l e R s m args below meth c Q D iC T b0 n0 ad0 nL (pc + 1) lv (.inl (some j) :: st) n rq σ mc ms) : zw_W p l e R s m args below meth c Q D iC T b0 n0 ad0 nL pc lv st n rq σ mc ms :=
  fun ad H locs ls he hn hcl hl hP hD hS => lv_aload_n C.1 C.2.1 d rfl (lv_at hl q (by rw [List.getElem?_map, hq]; rfl)) (k ad H locs ls he hn hcl hl hP hD hS)
theorem zw_iload (C : zw_C p s m args meth c cc nL own D iC b0 Z) {f : Fin 4} (q : Nat) {x : Int32} (d : decode cc pc = .ok (.iload_n f, 1)) (hq : lv[q]? = some ((f : Nat), .inr (.int x))) (k : zw_W p l e R s m args below meth c Q D iC T b0 n0 ad0 nL (pc + 1) lv (.inr (.int x) :: st) n rq σ mc ms) : zw_W p l e R s m args below meth c Q D iC T b0 n0 ad0 nL pc lv st n rq σ mc ms :=
  fun ad H locs ls he hn hcl hl hP hD hS => lv_iload_n C.1 C.2.1 d rfl (lv_at hl q (by rw [List.getElem?_map, hq]; rfl)) (k ad H locs ls he hn hcl hl hP hD hS)
theorem zw_iconst (C : zw_C p s m args meth c cc nL own D iC b0 Z) {i : Int} (v : Int32) (d : decode cc pc = .ok (.iconst i, 1)) (hv : Int32.ofInt i = v) (k : zw_W p l e R s m args below meth c Q D iC T b0 n0 ad0 nL (pc + 1) lv (.inr (.int v) :: st) n rq σ mc ms) : zw_W p l e R s m args below meth c Q D iC T b0 n0 ad0 nL pc lv st n rq σ mc ms :=
  fun ad H locs ls he hn hcl hl hP hD hS => lv_iconst C.1 C.2.1 d hv (k ad H locs ls he hn hcl hl hP hD hS)
theorem zw_bipush (C : zw_C p s m args meth c cc nL own D iC b0 Z) {i : Int} (v : Int32) (d : decode cc pc = .ok (.bipush i, 2)) (hv : (Int8.ofInt i).toInt32 = v) (k : zw_W p l e R s m args below meth c Q D iC T b0 n0 ad0 nL (pc + 2) lv (.inr (.int v) :: st) n rq σ mc ms) : zw_W p l e R s m args below meth c Q D iC T b0 n0 ad0 nL pc lv st n rq σ mc ms :=
  fun ad H locs ls he hn hcl hl hP hD hS => lv_bipush C.1 C.2.1 d hv (k ad H locs ls he hn hcl hl hP hD hS)
theorem zw_sipush (C : zw_C p s m args meth c cc nL own D iC b0 Z) {i : Int} (v : Int32) (d : decode cc pc = .ok (.sipush i, 3)) (hv : (Int16.ofInt i).toInt32 = v) (k : zw_W p l e R s m args below meth c Q D iC T b0 n0 ad0 nL (pc + 3) lv (.inr (.int v) :: st) n rq σ mc ms) : zw_W p l e R s m args below meth c Q D iC T b0 n0 ad0 nL pc lv st n rq σ mc ms :=
  fun ad H locs ls he hn hcl hl hP hD hS => lv_sipush C.1 C.2.1 d hv (k ad H locs ls he hn hcl hl hP hD hS)
theorem zw_dup (C : zw_C p s m args meth c cc nL own D iC b0 Z) {j : Nat} (d : decode cc pc = .ok (.dup, 1)) (k : zw_W p l e R s m args below meth c Q D iC T b0 n0 ad0 nL (pc + 1) lv (.inl (some j) :: .inl (some j) :: st) n rq σ mc ms) : zw_W p l e R s m args below meth c Q D iC T b0 n0 ad0 nL pc lv (.inl (some j) :: st) n rq σ mc ms :=
  fun ad H locs ls he hn hcl hl hP hD hS => lv_dup C.1 C.2.1 d rfl (k ad H locs ls he hn hcl hl hP hD hS)
theorem zw_goto (C : zw_C p s m args meth c cc nL own D iC b0 Z) {off : Int} (tgt : Nat) (d : decode cc pc = .ok (.goto off, 3)) (ht : (pc : Int) + off = (tgt : Int)) (k : zw_W p l e R s m args below meth c Q D iC T b0 n0 ad0 nL tgt lv st n rq σ mc ms) : zw_W p l e R s m args below meth c Q D iC T b0 n0 ad0 nL pc lv st n rq σ mc ms :=
  fun ad H locs ls he hn hcl hl hP hD hS => lv_goto C.1 C.2.1 d ht (k ad H locs ls he hn hcl hl hP hD hS)
theorem zw_icmp_ge (C : zw_C p s m args meth c cc nL own D iC b0 Z) {x y : Int32} {off : Int} (tgt : Nat) (d : decode cc pc = .ok (.if_icmp .ge off, 3)) (ht : (pc : Int) + off = (tgt : Int)) (kt : y ≤ x → zw_W p l e R s m args below meth c Q D iC T b0 n0 ad0 nL tgt lv st n rq σ mc ms) (kf : ¬ y ≤ x → zw_W p l e R s m args below meth c Q D iC T b0 n0 ad0 nL (pc + 3) lv st n rq σ mc ms) : zw_W p l e R s m args below meth c Q D iC T b0 n0 ad0 nL pc lv (.inr (.int y) :: .inr (.int x) :: st) n rq σ mc ms :=
  fun ad H locs ls he hn hcl hl hP hD hS => lv_icmp_ge C.1 C.2.1 d ht (fun z => kt z ad H locs ls he hn hcl hl hP hD hS) (fun z => kf z ad H locs ls he hn hcl hl hP hD hS)
theorem zw_fil (i : Nat) : ∀ (lv : List (Nat × zw_v)) (ad : Nat → Nat), (∀ q ∈ lv, (zw_r ad q.2).category = 1) → ((lv.map (fun q => (q.1, zw_r ad q.2))).filter (fun q => !(q.1 == i) && !(q.1 + 1 == i && q.2.category == 2))) = (lv.filter (fun q => !(q.1 == i))).map (fun q => (q.1, zw_r ad q.2)) := by
  intro lv ad
  induction lv with
  | nil => intro _; rfl
  | cons q lv ih =>
    intro h
    have hq := h q List.mem_cons_self
    have ih := ih (fun q hm => h q (List.mem_cons_of_mem _ hm))
    rw [List.map_cons, List.filter_cons, List.filter_cons, ih]
    by_cases z : q.1 = i
    · simp [z]
    · simp [z, hq]
theorem zw_istore (C : zw_C p s m args meth c cc nL own D iC b0 Z) {f : Fin 4} {i : Nat} {x : Int32} (lv2 : List (Nat × zw_v)) (d : decode cc pc = .ok (.istore_n f, 1)) (hi : (f : Nat) = i) (hn : i < nL) (hc : ∀ ad, ∀ q ∈ lv, (zw_r ad q.2).category = 1) (hq : (i, .inr (.int x)) :: lv.filter (fun q => !(q.1 == i)) = lv2) (k : zw_W p l e R s m args below meth c Q D iC T b0 n0 ad0 nL (pc + 1) lv2 st n rq σ mc ms) : zw_W p l e R s m args below meth c Q D iC T b0 n0 ad0 nL pc lv (.inr (.int x) :: st) n rq σ mc ms :=
  fun ad H locs ls he hn0 hcl hl hP hD hS => lv_istore_n C.1 C.2.1 d hi hl hn (lv' := lv2.map (fun q => (q.1, zw_r ad q.2))) (by rw [zw_fil i lv ad (hc ad), ← hq]; rfl) (fun ls2 hl2 => k ad H locs ls2 he hn0 hcl hl2 hP hD hS)
theorem zw_iinc (C : zw_C p s m args meth c cc nL own D iC b0 Z) (q : Nat) {i : Nat} {j : Int} {x : Int32} (v : Int32) (lv2 : List (Nat × zw_v)) (d : decode cc pc = .ok (.iinc i j, 3)) (hq : lv[q]? = some (i, .inr (.int x))) (hv : x + Int32.ofInt j = v) (hn : i < nL) (hc : ∀ ad, ∀ q ∈ lv, (zw_r ad q.2).category = 1) (h2 : (i, .inr (.int v)) :: lv.filter (fun q => !(q.1 == i)) = lv2) (k : zw_W p l e R s m args below meth c Q D iC T b0 n0 ad0 nL (pc + 3) lv2 st n rq σ mc ms) : zw_W p l e R s m args below meth c Q D iC T b0 n0 ad0 nL pc lv st n rq σ mc ms :=
  fun ad H locs ls he hn0 hcl hl hP hD hS => lv_iinc C.1 C.2.1 d hl (k := q) (by rw [List.getElem?_map, hq]; rfl) hv hn (lv' := lv2.map (fun q => (q.1, zw_r ad q.2))) (by rw [zw_fil i lv ad (hc ad), ← h2]; rfl) (fun ls2 hl2 => k ad H locs ls2 he hn0 hcl hl2 hP hD hS)
theorem zw_obj (C : zw_C p s m args meth c cc nL own D iC b0 Z) {index j : Nat} (hlink : Cond.methodLink own index Lib.objectInit ∈ x_tbl) (hinst : Cond.instanceMethod Lib.objectInit ∈ x_tbl) (hcode : Cond.code Lib.objectInit ⟨#[0xb1]⟩ 1 none ∈ x_tbl) (hR : 1 ≤ R.frames ∧ 12 ≤ R.locals) (d : decode cc pc = .ok (.invokespecial index, 3)) (k : zw_W p l e R s m args below meth c Q D iC T b0 n0 ad0 nL (pc + 3) lv [] n rq σ mc ms) : zw_W p l e R s m args below meth c Q D iC T b0 n0 ad0 nL pc lv [.inl (some j)] n rq σ mc ms :=
  fun ad H locs ls he hn0 hcl hl hP hD hS => W.objInit C.1 C.2.1 C.2.2.2.2.2.1 (C.2.2.2.2.2.2.1 _ hlink) (C.2.2.2.2.2.2.1 _ hinst) (C.2.2.2.2.2.2.1 _ hcode) (g := F0 m pc ls [.ref (ad j)]) rfl (by rw [C.2.2.1]; exact hl.1) rfl d hR.1 (by show 0 + 0 + 12 ≤ R.locals; omega) (k ad H locs ls he hn0 hcl hl hP hD hS)
theorem zw_new (C : zw_C p s m args meth c cc nL own D iC b0 Z) {ci index Nn : Nat} {Cn : String} {Tt : u_T} (ty : Nat → FieldType) (hk : x_kd T n = ci) (h10 : ci < 10) (hc : vwCl[ci]? = some (Cn, Tt, Nn)) (hin : ∀ w ∈ u_ws Cn Tt Nn, w ∈ x_tbl) (hty : ∀ k, k < Nn → parseFieldDescriptor (Tt k).2.2.1 = some (ty k)) (hcl2 : Cond.classLink own index Cn ∈ x_tbl) (hinst : Cond.instantiable Cn Nn ∈ x_tbl) (hini : Cond.initialized Cn ∈ x_tbl) (hf0 : ∀ j, j < Nn → defaultValue (ty j) = vp_V (x_fs ci (fun _ => .null) (fun _ => 0)) j) (hlv : lv.all (fun q => zw_b n q.2) = true) (hst : st.all (zw_b n) = true) (hR : mc + 1 ≤ R.cells ∧ ms + Nn ≤ R.slots) (d : decode cc pc = .ok (.new index, 3)) (k : zw_W p l e R s m args below meth c Q D iC T b0 n0 ad0 nL (pc + 3) lv (.inl (some n) :: st) (n + 1) rq σ (mc + 1) (ms + Nn)) : zw_W p l e R s m args below meth c Q D iC T b0 n0 ad0 nL pc lv st n rq σ mc ms := by
  intro ad H locs ls he hn0 hcl hl hP hD hS
  obtain ⟨hx, hb, hml, hret, hlk, hown, hts, hK, hZ, hZs, hb0, hname⟩ := C
  refine va_new hx hb hts hin ty hty hown (hts _ hcl2) (hts _ hinst) (hts _ hini) hK hP hD hS (fun q h => Nat.le_trans hb0 h) hc (fs := x_fs ci (fun _ => .null) (fun _ => 0)) hf0 hR.1 hR.2 d (fun q H1 hP1 hD1 hS1 => ?_)
  have hx : ∀ i, i < n → x_u ad n q i = ad i := fun i hi => by simp [x_u, Nat.ne_of_lt hi]
  have e1 : zw_E T iC (x_u ad n q) rq σ n = .inr (ci, x_fs ci (fun _ => .null) (fun _ => 0)) := by
    have a : (fun k => zw_r (x_u ad n q) (.inl (rq n k))) = fun _ => .null := funext fun k => by rw [(hcl.2 n k (Nat.le_refl n)).1]; rfl
    have b : σ.1 n = fun _ => 0 := funext fun k => (hcl.2 n k (Nat.le_refl n)).2.1
    rw [zw_E, hk, if_pos h10, a, b]
  rw [← e1, zw_push hcl] at hP1 hD1
  have g := k (x_u ad n q) H1 locs ls (fun i hi => by rw [hx i (by omega)]; exact he i hi) (by omega) (zw_clN hcl) (by rw [zw_extL hx hlv]; exact hl) hP1 hD1 hS1
  have e2 : ((.inl (some n) : zw_v) :: st).map (zw_r (x_u ad n q)) = .ref q :: st.map (zw_r ad) := by
    rw [List.map_cons, zw_extS hx hst]
    show Value.ref (x_u ad n q n) :: _ = _
    simp [x_u]
  rw [e2] at g
  exact g
theorem zw_newa (C : zw_C p s m args meth c cc nL own D iC b0 Z) {atype : ArrayType} {ty : FieldType} {t0 N' : Nat} {i : Int32} {a0 : vp_A} (hty : newarray.typeOf atype = ty) (harr : Cond.arrayClass ty ∈ x_tbl) (ht : (zw_ty iC)[t0]? = some (iC t0, ty)) (hE : ∀ ad rq, zw_cl n rq σ → zw_E T iC ad rq σ n = .inl (iC t0, a0)) (ha : ∀ cA : ClassId, vp_cell cA a0 = arrV cA N' (fun _ => defaultValue ty)) (hi : ¬ i < 0) (hN : i.toNatClampNeg = N') (hbytes : N' * componentBytes ty ≤ 536870912) (hlv : lv.all (fun q => zw_b n q.2) = true) (hst : st.all (zw_b n) = true) (hR : mc + 1 ≤ R.cells ∧ ms + N' ≤ R.slots) (d : decode cc pc = .ok (.newarray atype, 2)) (k : zw_W p l e R s m args below meth c Q D iC T b0 n0 ad0 nL (pc + 2) lv (.inl (some n) :: st) (n + 1) rq σ (mc + 1) (ms + N')) : zw_W p l e R s m args below meth c Q D iC T b0 n0 ad0 nL pc lv (.inr (.int i) :: st) n rq σ mc ms := by
  intro ad H locs ls he hn0 hcl hl hP hD hS
  obtain ⟨hx, hb, hml, hret, hlk, hown, hts, hK, hZ, hZs, hb0, hname⟩ := C
  refine va_newa hx hb (by rw [hty]; exact hts _ harr) hty hK hP hD hS (fun q h => Nat.le_trans hb0 h) ha hi hN hbytes hR.1 hR.2 d (fun q cA H1 hK1 hP1 hD1 hS1 => ?_)
  have hx : ∀ i, i < n → x_u ad n q i = ad i := fun i hi => by simp [x_u, Nat.ne_of_lt hi]
  have hcA : cA = iC t0 := zw_ra (hK1.2 6 (cA, ty) rfl).2 (hK.2 t0 _ ht).2
  rw [hcA, ← hE (x_u ad n q) rq hcl, zw_push hcl] at hP1 hD1
  have g := k (x_u ad n q) H1 locs ls (fun i hi => by rw [hx i (by omega)]; exact he i hi) (by omega) (zw_clN hcl) (by rw [zw_extL hx hlv]; exact hl) hP1 hD1 hS1
  have e2 : ((.inl (some n) : zw_v) :: st).map (zw_r (x_u ad n q)) = .ref q :: st.map (zw_r ad) := by
    rw [List.map_cons, zw_extS hx hst]
    show Value.ref (x_u ad n q n) :: _ = _
    simp [x_u]
  rw [e2] at g
  exact g
theorem zw_newq (C : zw_C p s m args meth c cc nL own D iC b0 Z) {index N' : Nat} {i : Int32} (hcl2 : Cond.classLink own index "BabyRound$State" ∈ x_tbl) (hk : x_kd T n = 15) (hln : x_ln T n = N') (hi : ¬ i < 0) (hN : i.toNatClampNeg = N') (hbytes : N' * 4 ≤ 536870912) (hlv : lv.all (fun q => zw_b n q.2) = true) (hst : st.all (zw_b n) = true) (hR : mc + 1 ≤ R.cells ∧ ms + N' ≤ R.slots) (d : decode cc pc = .ok (.anewarray index, 3)) (k : zw_W p l e R s m args below meth c Q D iC T b0 n0 ad0 nL (pc + 3) lv (.inl (some n) :: st) (n + 1) rq σ (mc + 1) (ms + N')) : zw_W p l e R s m args below meth c Q D iC T b0 n0 ad0 nL pc lv (.inr (.int i) :: st) n rq σ mc ms := by
  intro ad H locs ls he hn0 hcl hl hP hD hS
  obtain ⟨hx, hb, hml, hret, hlk, hown, hts, hK, hZ, hZs, hb0, hname⟩ := C
  refine va_newq hx hb hown (hts _ hcl2) (hZ.2.2.2 s hZs) hK hP hD hS (fun q h => Nat.le_trans hb0 h) hi hN hbytes hR.1 hR.2 d (fun q cA H1 hK1 hP1 hD1 hS1 => ?_)
  have hx : ∀ i, i < n → x_u ad n q i = ad i := fun i hi => by simp [x_u, Nat.ne_of_lt hi]
  have hcA : cA = iC 5 := zw_ra (hK1.2 6 (cA, .object "BabyRound$State") rfl).2 (hK.2 5 _ rfl).2
  have e1 : zw_E T iC (x_u ad n q) rq σ n = .inl (iC 5, N', .inr (.inr (.inr (.inr (fun _ => none))))) := by
    have a : (fun j => (rq n j).map (x_u ad n q)) = fun _ => none := funext fun k => by rw [(hcl.2 n k (Nat.le_refl n)).1]; rfl
    rw [zw_E, hk, hln, a]
    rfl
  rw [hcA, ← e1, zw_push hcl] at hP1 hD1
  have g := k (x_u ad n q) H1 locs ls (fun i hi => by rw [hx i (by omega)]; exact he i hi) (by omega) (zw_clN hcl) (by rw [zw_extL hx hlv]; exact hl) hP1 hD1 hS1
  have e2 : ((.inl (some n) : zw_v) :: st).map (zw_r (x_u ad n q)) = .ref q :: st.map (zw_r ad) := by
    rw [List.map_cons, zw_extS hx hst]
    show Value.ref (x_u ad n q n) :: _ = _
    simp [x_u]
  rw [e2] at g
  exact g
theorem zw_putR (C : zw_C p s m args meth c cc nL own D iC b0 Z) {o ci f j index Nn : Nat} {ref Cn : String} {Tt : u_T} {ty : FieldType} (ty0 : Nat → FieldType) (hk : x_kd T o = ci) (h10 : ci < 10) (hc : vwCl[ci]? = some (Cn, Tt, Nn)) (hin : ∀ w ∈ u_ws Cn Tt Nn, w ∈ x_tbl) (hty : ∀ k, k < Nn → parseFieldDescriptor (Tt k).2.2.1 = some (ty0 k)) (hnm : ∀ a, a < Nn → ∀ b, b < Nn → a ≠ b → (Tt a).2.1 ≠ (Tt b).2.1) (hn : f < Nn) (hf : f < x_nf ci) (hr : x_isR ci f = true) (href : ref = (Tt f).1) (hlink : Cond.fieldLink own index ref (Tt f).2.1 (Tt f).2.2.1 ∈ x_tbl) (hfin : (Tt f).2.2.2 = true) (hdecl : (Tt f).1 = own) (hd : parseFieldDescriptor (Tt f).2.2.1 = some ty) (hnar : ∀ a : Nat, narrow ty (.ref a) = .ref a) (hfit : ∀ a : Nat, fits ty (.ref a) = true) (ho : o < n) (hj : j < n) (d : decode cc pc = .ok (.putfield index, 3)) (k : zw_W p l e R s m args below meth c Q D iC T b0 n0 ad0 nL (pc + 3) lv st n (zw_u rq o f j) σ mc ms) : zw_W p l e R s m args below meth c Q D iC T b0 n0 ad0 nL pc lv (.inl (some j) :: .inl (some o) :: st) n rq σ mc ms := by
  intro ad H locs ls he hn0 hcl hl hP hD hS
  obtain ⟨hx, hb, hml, hret, hlk, hown, hts, hK, hZ, hZs, hb0, hname⟩ := C
  have hE : zw_E T iC ad rq σ o = .inr (ci, x_fs ci (fun k => zw_r ad (.inl (rq o k))) (σ.1 o)) := by rw [zw_E, hk, if_pos h10]
  have hat : (zw_ws T iC ad rq σ n)[o]? = some (ad o, .inr (ci, x_fs ci (fun k => zw_r ad (.inl (rq o k))) (σ.1 o))) := by rw [zw_at ho, hE]
  refine va_putF hx hb hts hin ty0 hty hnm hown hK hP hD hS o hat hc f hn (hts _ hlink) (fun x h => by rw [href]; exact h) hfin hname hdecl hd (hnar _) (hfit _) (by simp [x_fs, hf]) d (fun H1 locs1 hP1 hD1 hS1 => ?_)
  have hset : (zw_ws T iC ad rq σ n).set o (ad o, .inr (ci, (x_fs ci (fun k => zw_r ad (.inl (rq o k))) (σ.1 o)).set f (.ref (ad j)))) = zw_ws T iC ad (zw_u rq o f j) σ n := by
    refine zw_set ?_ (fun a ha => ?_)
    · rw [zw_E, hk, if_pos h10, zw_fsR _ _ _ hr]
      congr 3
      funext k
      by_cases z : k = f
      · subst z; simp [zw_u, x_u, zw_r]
      · simp [zw_u, x_u, z]
    · have q : ∀ b, zw_u rq o f j a b = rq a b := fun b => by rw [zw_u, if_neg (fun z => ha z.1)]
      rw [zw_E, zw_E]
      simp only [q]
  rw [show (zw_r ad (.inl (some j)) : Value) = .ref (ad j) from rfl, hset] at hP1 hD1
  exact k ad H1 locs1 ls he hn0 (zw_clU hcl ho hj) hl hP1 hD1 hS1
theorem zw_putI (C : zw_C p s m args meth c cc nL own D iC b0 Z) {o ci f index Nn : Nat} {ref Cn : String} {Tt : u_T} {ty : FieldType} {v : Int32} (ty0 : Nat → FieldType) (hk : x_kd T o = ci) (h10 : ci < 10) (hc : vwCl[ci]? = some (Cn, Tt, Nn)) (hin : ∀ w ∈ u_ws Cn Tt Nn, w ∈ x_tbl) (hty : ∀ k, k < Nn → parseFieldDescriptor (Tt k).2.2.1 = some (ty0 k)) (hnm : ∀ a, a < Nn → ∀ b, b < Nn → a ≠ b → (Tt a).2.1 ≠ (Tt b).2.1) (hn : f < Nn) (hf : f < x_nf ci) (hr : x_isR ci f = false) (href : ref = (Tt f).1) (hlink : Cond.fieldLink own index ref (Tt f).2.1 (Tt f).2.2.1 ∈ x_tbl) (hfin : (Tt f).2.2.2 = false) (hd : parseFieldDescriptor (Tt f).2.2.1 = some ty) (hnar : narrow ty (.int v) = .int v) (hfit : fits ty (.int v) = true) (ho : o < n) (d : decode cc pc = .ok (.putfield index, 3)) (k : zw_W p l e R s m args below meth c Q D iC T b0 n0 ad0 nL (pc + 3) lv st n rq (x_pI σ o f v) mc ms) : zw_W p l e R s m args below meth c Q D iC T b0 n0 ad0 nL pc lv (.inr (.int v) :: .inl (some o) :: st) n rq σ mc ms := by
  intro ad H locs ls he hn0 hcl hl hP hD hS
  obtain ⟨hx, hb, hml, hret, hlk, hown, hts, hK, hZ, hZs, hb0, hname⟩ := C
  have hE : zw_E T iC ad rq σ o = .inr (ci, x_fs ci (fun k => zw_r ad (.inl (rq o k))) (σ.1 o)) := by rw [zw_E, hk, if_pos h10]
  have hat : (zw_ws T iC ad rq σ n)[o]? = some (ad o, .inr (ci, x_fs ci (fun k => zw_r ad (.inl (rq o k))) (σ.1 o))) := by rw [zw_at ho, hE]
  refine va_put hx hb hts hin ty0 hty hnm hown hK hP hD hS o hat hc f hn (hts _ hlink) (fun x h => by rw [href]; exact h) hfin hd hnar hfit (by simp [x_fs, hf]) d (fun H1 locs1 hP1 hD1 hS1 => ?_)
  have hset : (zw_ws T iC ad rq σ n).set o (ad o, .inr (ci, (x_fs ci (fun k => zw_r ad (.inl (rq o k))) (σ.1 o)).set f (.int v))) = zw_ws T iC ad rq (x_pI σ o f v) n := by
    refine zw_set ?_ (fun a ha => ?_)
    · rw [zw_E, hk, if_pos h10, x_fs_set _ _ _ hr]
      simp [x_pI, x_u]
    · simp [zw_E, x_pI, x_u, ha]
  rw [show (zw_r ad (.inr (.int v)) : Value) = .int v from rfl, hset] at hP1 hD1
  exact k ad H1 locs1 ls he hn0 (zw_clI hcl ho) hl hP1 hD1 hS1
theorem zw_getR (C : zw_C p s m args meth c cc nL own D iC b0 Z) {o ci f j index Nn : Nat} {ref Cn : String} {Tt : u_T} (hk : x_kd T o = ci) (h10 : ci < 10) (hc : vwCl[ci]? = some (Cn, Tt, Nn)) (hin : ∀ w ∈ u_ws Cn Tt Nn, w ∈ x_tbl) (hn : f < Nn) (hf : f < x_nf ci) (hr : x_isR ci f = true) (href : ref = (Tt f).1) (hlink : Cond.fieldLink own index ref (Tt f).2.1 (Tt f).2.2.1 ∈ x_tbl) (ho : o < n) (hq : rq o f = some j) (d : decode cc pc = .ok (.getfield index, 3)) (k : zw_W p l e R s m args below meth c Q D iC T b0 n0 ad0 nL (pc + 3) lv (.inl (some j) :: st) n rq σ mc ms) : zw_W p l e R s m args below meth c Q D iC T b0 n0 ad0 nL pc lv (.inl (some o) :: st) n rq σ mc ms := by
  intro ad H locs ls he hn0 hcl hl hP hD hS
  obtain ⟨hx, hb, hml, hret, hlk, hown, hts, hK, hZ, hZs, hb0, hname⟩ := C
  have hE : zw_E T iC ad rq σ o = .inr (ci, x_fs ci (fun k => zw_r ad (.inl (rq o k))) (σ.1 o)) := by rw [zw_E, hk, if_pos h10]
  have hat : (zw_ws T iC ad rq σ n)[o]? = some (ad o, .inr (ci, x_fs ci (fun k => zw_r ad (.inl (rq o k))) (σ.1 o))) := by rw [zw_at ho, hE]
  exact va_get hx hb hts hin hown hK hP o hat hc f hn (hts _ hlink) (fun x h => by rw [href]; exact h) (by rw [x_fs_get _ _ hf, hr, hq]; rfl) d (k ad H locs ls he hn0 hcl hl hP hD hS)
theorem zw_alen (C : zw_C p s m args meth c cc nL own D iC b0 Z) {o : Nat} (v : Int32) (hk : x_kd T o = 15) (hv : Int32.ofNat (x_ln T o) = v) (ho : o < n) (d : decode cc pc = .ok (.arraylength, 1)) (k : zw_W p l e R s m args below meth c Q D iC T b0 n0 ad0 nL (pc + 1) lv (.inr (.int v) :: st) n rq σ mc ms) : zw_W p l e R s m args below meth c Q D iC T b0 n0 ad0 nL pc lv (.inl (some o) :: st) n rq σ mc ms := by
  intro ad H locs ls he hn0 hcl hl hP hD hS
  obtain ⟨hx, hb, hml, hret, hlk, hown, hts, hK, hZ, hZs, hb0, hname⟩ := C
  exact va_alen hx hb hK hP o 5 (x := (x_ln T o, .inr (.inr (.inr (.inr (fun j => (rq o j).map ad)))))) (by rw [zw_at ho, zw_E, hk]; rfl) rfl hv d (k ad H locs ls he hn0 hcl hl hP hD hS)
theorem zw_astq (C : zw_C p s m args meth c cc nL own D iC b0 Z) {o j i : Nat} (hk : x_kd T o = 15) (hkj : x_kd T j = 5) (hi : i < x_ln T o) (hi2 : x_ln T o < 2 ^ 31) (ho : o < n) (hj : j < n) (d : decode cc pc = .ok (.aastore, 1)) (k : zw_W p l e R s m args below meth c Q D iC T b0 n0 ad0 nL (pc + 1) lv st n (zw_u rq o i j) σ mc ms) : zw_W p l e R s m args below meth c Q D iC T b0 n0 ad0 nL pc lv (.inl (some j) :: .inr (.int (nI i)) :: .inl (some o) :: st) n rq σ mc ms := by
  intro ad H locs ls he hn0 hcl hl hP hD hS
  obtain ⟨hx, hb, hml, hret, hlk, hown, hts, hK, hZ, hZs, hb0, hname⟩ := C
  have hE : zw_E T iC ad rq σ o = .inl (iC 5, x_ln T o, .inr (.inr (.inr (.inr (fun j => (rq o j).map ad))))) := by rw [zw_E, hk]; rfl
  have hat : (zw_ws T iC ad rq σ n)[o]? = some (ad o, .inl (iC 5, x_ln T o, .inr (.inr (.inr (.inr (fun j => (rq o j).map ad)))))) := by rw [zw_at ho, hE]
  have hatj : (zw_ws T iC ad rq σ n)[j]? = some (ad j, .inr (5, x_fs 5 (fun k => zw_r ad (.inl (rq j k))) (σ.1 j))) := by rw [zw_at hj, zw_E, hkj]; rfl
  refine va_astq hx hb hK hP hD hS o 5 j 5 hat rfl hatj (r := (RX5, TX5, 21)) rfl (vp_in_nI hi hi2) d (fun H1 locs1 hP1 hD1 hS1 => ?_)
  have hset : (zw_ws T iC ad rq σ n).set o (ad o, .inl (iC 5, x_ln T o, .inr (.inr (.inr (.inr (va_up (fun j => (rq o j).map ad) (nI i).toNatClampNeg (some (ad j)))))))) = zw_ws T iC ad (zw_u rq o i j) σ n := by
    refine zw_set ?_ (fun a ha => ?_)
    · have q : (fun b => (zw_u rq o i j o b).map ad) = va_up (fun j => (rq o j).map ad) (nI i).toNatClampNeg (some (ad j)) := by
        funext b
        rw [nI_clamp (by omega)]
        by_cases z : b = i
        · subst z; simp [zw_u, va_up]
        · simp [zw_u, va_up, z]
      rw [zw_E, hk, q]
      rfl
    · have q : ∀ b, zw_u rq o i j a b = rq a b := fun b => by rw [zw_u, if_neg (fun z => ha z.1)]
      rw [zw_E, zw_E]
      simp only [q]
  rw [hset] at hP1 hD1
  exact k ad H1 locs1 ls he hn0 (zw_clU hcl ho hj) hl hP1 hD1 hS1
theorem zw_blind (hZ : zw_OK b0 Z) (av : List Value) (ad : Nat → Nat) : FrameBlind (va_Pc av (zw_Pr D iC T b0 Z n ad rq σ)) := by
  intro a U g mk h
  obtain ⟨h0, h1, h2, h3, h4, h5⟩ := h
  exact ⟨h0, h1, h2, va_K.moved (u := U) (U := U.calling g mk a) (Vm.Alike.refl U.vm) h3, hZ.1 U (U.calling g mk a) h4 (x_wrf U) (Nat.le_refl _) (fun _ _ _ => rfl), h5⟩
theorem zw_pre (C : zw_C p s m args meth c cc nL own D iC b0 Z) {H : Heap} {locs : List Loc} {ad : Nat → Nat} (hP : va_P D vwCl (zw_ws T iC ad rq σ n) H) (hD : va_D (zw_A b0) (zw_ws T iC ad rq σ n)) (hS : va_S (zw_A b0) s.heap H locs) (av : List Value) : ∀ U : State, U.heap = H → s.WarmedH U.vm → va_Pc av (zw_Pr D iC T b0 Z n ad rq σ) av.toArray U := by
  intro U hU hW
  obtain ⟨hx, hb, hml, hret, hlk, hown, hts, hK, hZ, hZs, hb0, hname⟩ := C
  exact ⟨rfl, by rw [hU]; exact hP, hD, va_K.moved hW.alike hK, hZ.1 s U hZs hW (by rw [hU]; exact hS.1) (fun q h1 h2 => by rw [hU]; exact hS.2.1 q h1 (Nat.not_le.mpr h2)), by rw [hU]; exact Nat.le_trans hb0 hS.1⟩
theorem zw_callI (C : zw_C p s m args meth c cc nL own D iC b0 Z) {y : MethodName} {b : ByteArray} {nL2 na index mc2 ms2 n' o i : Nat} {rq' : zw_R} {σ' : x_Hp} {rm2 : Room} {st0 : List zw_v} {As : List zw_v} {host : String} (hM : zw_M l D iC T b0 Z y b nL2 rm2 mc2 ms2 (.inl (some o) :: As) n rq σ n' rq' σ') (hl : lw_tbl[i]? = some (Cond.methodLinkNest own index y host)) (hy : y.name = "<init>") (hi : Cond.instanceMethod y ∈ x_tbl) (hini : Cond.initialized y.cls ∈ x_tbl) (hcode : Cond.code y b nL2 none ∈ x_tbl) (hd : y.cls ≠ "java/lang/invoke/MethodHandle" ∧ y.cls ≠ "java/lang/invoke/VarHandle" ∧ (parseMethodDescriptor y.desc).map (fun d => d.parameters.length) = some na) (hna : As.length = na) (hR : rm2.frames + 1 ≤ R.frames ∧ 8 + (nL2 + 11) + rm2.locals ≤ R.locals) (hrm : rm2.cells = mc2 ∧ rm2.slots = ms2) (hcs : mc + mc2 ≤ R.cells ∧ ms + ms2 ≤ R.slots) (hst : st0 = As.reverse ++ .inl (some o) :: st) (hcat : ∀ ad, ((st.map (zw_r ad)).map fun v => v.category).sum ≤ 8) (hlv : lv.all (fun q => zw_b n q.2) = true) (hsb : st.all (zw_b n) = true) (d : decode cc pc = .ok (.invokespecial index, 3)) (k : zw_W p l e R s m args below meth c Q D iC T b0 n0 ad0 nL (pc + 3) lv st n' rq' σ' (mc + mc2) (ms + ms2)) : zw_W p l e R s m args below meth c Q D iC T b0 n0 ad0 nL pc lv st0 n rq σ mc ms := by
  intro ad H locs ls he hn0 hcl hl' hP hD hS
  have C' := C
  obtain ⟨hx, hb, hml, hret, hlk, hown, hts, hK, hZ, hZs, hb0, hname⟩ := C
  obtain ⟨⟨hnn, hcl'⟩, hMet⟩ := hM hcl
  subst hst
  rw [List.map_append, List.map_reverse, List.map_cons]
  refine va_callv (va_runIN (As := As.map (zw_r ad)) (rest := st.map (zw_r ad)) ⟨hx, hb, hml, hown, hts⟩ (hMet ad) ⟨va_cnB na hts (x_goodIn hcode) rfl hrm.1 hrm.2 (hZ.2.1 s hZs _ (List.mem_of_getElem? hl) rfl) (hts _ hini) hd hR, hy, hts _ hi⟩ ⟨zw_blind hZ _ _, zw_pre C' hP hD hS ((Value.ref (ad o)) :: As.map (zw_r ad))⟩ rfl (by rw [List.length_map]; exact hna) hl'.1 rfl (lv_room (hcat ad)) d hcs) hS (fun q _ h => h) (fun q h => h) (fun ad' t H1 locs1 ht hvm hpost hB hsz hk1 hS1 => ?_)
  obtain ⟨hP1, hD1⟩ := hB
  rw [ht] at hP1
  have g := k ad' H1 locs1 ls (fun i hi => by rw [hpost i (by omega)]; exact he i hi) (by omega) hcl' (by rw [zw_extL hpost hlv]; exact hl') hP1 hD1 hS1
  rw [zw_extS hpost hsb] at g
  exact g
theorem zw_callP (C : zw_C p s m args meth c cc nL own D iC b0 Z) {y : MethodName} {b : ByteArray} {nL2 na index mc2 ms2 n' o : Nat} {rq' : zw_R} {σ' : x_Hp} {rm2 : Room} {st0 : List zw_v} {As : List zw_v} (hM : zw_M l D iC T b0 Z y b nL2 rm2 mc2 ms2 (.inl (some o) :: As) n rq σ n' rq' σ') (hl : Cond.methodLink own index y ∈ x_tbl) (hy : y.name = "<init>") (hi : Cond.instanceMethod y ∈ x_tbl) (hini : Cond.initialized y.cls ∈ x_tbl) (hcode : Cond.code y b nL2 none ∈ x_tbl) (hd : y.cls ≠ "java/lang/invoke/MethodHandle" ∧ y.cls ≠ "java/lang/invoke/VarHandle" ∧ (parseMethodDescriptor y.desc).map (fun d => d.parameters.length) = some na) (hna : As.length = na) (hR : rm2.frames + 1 ≤ R.frames ∧ 8 + (nL2 + 11) + rm2.locals ≤ R.locals) (hrm : rm2.cells = mc2 ∧ rm2.slots = ms2) (hcs : mc + mc2 ≤ R.cells ∧ ms + ms2 ≤ R.slots) (hst : st0 = As.reverse ++ .inl (some o) :: st) (hcat : ∀ ad, ((st.map (zw_r ad)).map fun v => v.category).sum ≤ 8) (hlv : lv.all (fun q => zw_b n q.2) = true) (hsb : st.all (zw_b n) = true) (d : decode cc pc = .ok (.invokespecial index, 3)) (k : zw_W p l e R s m args below meth c Q D iC T b0 n0 ad0 nL (pc + 3) lv st n' rq' σ' (mc + mc2) (ms + ms2)) : zw_W p l e R s m args below meth c Q D iC T b0 n0 ad0 nL pc lv st0 n rq σ mc ms := by
  intro ad H locs ls he hn0 hcl hl' hP hD hS
  have C' := C
  obtain ⟨hx, hb, hml, hret, hlk, hown, hts, hK, hZ, hZs, hb0, hname⟩ := C
  obtain ⟨⟨hnn, hcl'⟩, hMet⟩ := hM hcl
  subst hst
  rw [List.map_append, List.map_reverse, List.map_cons]
  refine va_callv (va_runI (As := As.map (zw_r ad)) (rest := st.map (zw_r ad)) ⟨hx, hb, hml, hown, hts⟩ (hMet ad) ⟨callB_of na hts (x_goodIn hcode) rfl hrm.1 hrm.2 (hts _ hini) (hts _ hl) hd hR, hy, hts _ hi⟩ ⟨zw_blind hZ _ _, zw_pre C' hP hD hS ((Value.ref (ad o)) :: As.map (zw_r ad))⟩ rfl (by rw [List.length_map]; exact hna) hl'.1 rfl (lv_room (hcat ad)) d hcs) hS (fun q _ h => h) (fun q h => h) (fun ad' t H1 locs1 ht hvm hpost hB hsz hk1 hS1 => ?_)
  obtain ⟨hP1, hD1⟩ := hB
  rw [ht] at hP1
  have g := k ad' H1 locs1 ls (fun i hi => by rw [hpost i (by omega)]; exact he i hi) (by omega) hcl' (by rw [zw_extL hpost hlv]; exact hl') hP1 hD1 hS1
  rw [zw_extS hpost hsb] at g
  exact g
theorem zw_vret (C : zw_C p s m args meth c cc nL own D iC b0 Z) (d : decode cc pc = .ok (.return_, 1)) : zw_W p l e R s m args below meth c (MQ below (zw_Q D iC T b0 n0 n ad0 rq σ) args s mc ms (zw_A b0)) D iC T b0 n0 ad0 nL pc lv [] n rq σ mc ms := by
  intro ad H locs ls he hn0 hcl hl' hP hD hS
  obtain ⟨hx, hb, hml, hret, hlk, hown, hts, hK, hZ, hZs, hb0, hname⟩ := C
  exact W.vret hx hb hret (fun t ht hW => ⟨⟨ad, rfl, he, by rw [zw_B, ht]; exact ⟨hP, hD⟩⟩, hS.F ht⟩) hS.2.2 d
end ZROWS
theorem zw_M.of {l : Launch} {D : va_G} {iC : Nat → ClassId} {T : x_Tb} {b0 : Nat} {Z : State → Prop} (hZ : zw_OK b0 Z) {y : MethodName} {b : ByteArray} {nL : Nat} {rm : Room} {mc ms : Nat} {av : List zw_v} {n : Nat} {rq : zw_R} {σ : x_Hp} {n' : Nat} {rq' : zw_R} {σ' : x_Hp} {lv : List (Nat × zw_v)} (hy : plainName y.cls = true) (hyn : y.name = "<init>") (hn : ∀ ad, (lg_sl (av.map (zw_r ad))).length ≤ nL) (hlv : ∀ ad, lv_args 0 (av.map (zw_r ad)) = lv.map (fun q => (q.1, zw_r ad q.2))) (hcl : zw_cl n rq σ → n ≤ n' ∧ zw_cl n' rq' σ')
    (body : ∀ (ad0 : Nat → Nat) (p : Program) (e : Env) (s : State) (m : MethodId) (args : Array Value) (below : List Frame) (meth : Method) (c : Code), zw_C p s m args meth c b nL y.cls D iC b0 Z → zw_W p l e rm s m args below meth c (MQ below (zw_Q D iC T b0 n n' ad0 rq' σ') args s mc ms (zw_A b0)) D iC T b0 n ad0 nL 0 lv [] n rq σ 0 0) : zw_M l D iC T b0 Z y b nL rm mc ms av n rq σ n' rq' σ' := by
  intro hc0
  refine ⟨hcl hc0, fun ad0 => ?_⟩
  refine Met.ofW (cc := b) (maxL := nL) (ret := none) hy rfl ?_
  intro p e s m args below meth c s₁ B hml hv
  obtain ⟨rfl, hP, hD, hK, hZs, hb0⟩ := hv
  have hts := atoms_spec (ws := .code y b nL none :: x_tbl) B.pre
  have hown : s.vm.findClass y.cls = some m.cls := findClass_of_methodNamed B.named
  have hl := lv_entry (av.map (zw_r ad0)) (n := nL) (hn ad0)
  have hname : meth.name = "<init>" := (name_of_methodNamed B.named B.method).1.trans hyn
  rw [lg_entry_eq]
  rw [hlv] at hl
  exact body ad0 p e s m _ below meth c ⟨B.exec, B.bytes, hml, B.returns, B.notSynchronized, hown, fun w hw => hts w (List.mem_cons_of_mem _ hw), hK, hZ, hZs, hb0, hname⟩ ad0 s.heap [] _ (fun _ _ => rfl) (Nat.le_refl n) hc0 hl hP hD va_S.rf
