theorem x_itp {α : Type} {c : Prop} [hd : Decidable c] {a b : Option α} {r : α} (hc : c) (h : (if c then a else b) = some r) : a = some r := (if_pos hc).symm.trans h
theorem x_itn {α : Type} {c : Prop} [hd : Decidable c] {a b : Option α} {r : α} (hc : ¬ c) (h : (if c then a else b) = some r) : b = some r := (if_neg hc).symm.trans h
def x_pt {α : Type} (σ : x_Hp) (f : x_Hp → Option α) : Option α := f σ
def x_fuel : Nat := 65536
theorem x_ne0 {y : Int32} (h : (!decide (y = 0)) = true) : ¬ y = 0 := by simpa using h
def x_isz (v : Int32) : Bool := decide (v = 0) || decide (v = 1)
theorem x_isz_n {v : Int32} (h : x_isz v = true) : narrow .boolean (.int v) = .int v := by
  simp only [x_isz, Bool.or_eq_true, decide_eq_true_eq] at h
  rcases h with h | h <;> subst h <;> rfl
def x_isc (v : Int32) : Bool := decide (vp_nar .char v = v)
theorem x_nar_c (v : Int32) : narrow .char (.int v) = .int (vp_nar .char v) := rfl
theorem x_isc_n {v : Int32} (h : x_isc v = true) : narrow .char (.int v) = .int v := by
  simp only [x_isc, decide_eq_true_eq] at h
  rw [x_nar_c, h]
theorem x_tne {x v : Int32} {k : Int} (hv : v.toInt = k) (h : ¬ x = v) : x.toInt ≠ k := fun q => h (Int32.toInt_inj.mp (by rw [hv]; exact q))
section XS
variable {p : Program} {l : Launch} {e : Env} {R : Room} {s : State} {m : MethodId} {args : Array Value} {below : List Frame} {meth : Method} {c : Code} {Q : State → Prop} {cc : ByteArray} {nL : Nat} {ret : Option FieldType} {own : String} {T : x_Tb} {G : x_G} {pc : Nat} {lv : List (Nat × Value)} {st : List Value} {σ : x_Hp}
theorem x_gen {α : Type} {f : x_Hp → Option α} {r : α} {τ : x_Hp} (h : x_pt τ f = some r) (k : ∀ σ1 : x_Hp, f σ1 = some r → x_W p l e R s m args below meth c Q T G nL pc lv st σ1) : x_W p l e R s m args below meth c Q T G nL pc lv st τ := k τ h
theorem x_sub {lv2 : List (Nat × Value)} (ks : List Nat) (hk : lv_pick lv ks = lv2) (k : x_W p l e R s m args below meth c Q T G nL pc lv2 st σ) : x_W p l e R s m args below meth c Q T G nL pc lv st σ :=
  fun H locs ls hl hP hS => k H locs ls (lv_sub hl ks hk) hP hS
theorem x_ts_at (C : x_C p s m args meth c cc nL ret own T G) {dflt lo hi : Int} {offs : Array Int} {len : Nat} {x : Int32} (v : Int32) (off : Int) (tgt : Nat) (d : decode cc pc = .ok (.tableswitch dflt lo hi offs, len)) (hx : x = v) (h1 : ¬ v.toInt < lo) (h2 : ¬ hi < v.toInt) (ho : offs[(v.toInt - lo).toNat]? = some off) (ht : (pc : Int) + off = (tgt : Int)) (k : x_W p l e R s m args below meth c Q T G nL tgt lv st σ) : x_W p l e R s m args below meth c Q T G nL pc lv (.int x :: st) σ := by
  subst hx
  exact x_ts_in C off tgt d h1 h2 ho ht k
theorem x_lcmp (C : x_C p s m args meth c cc nL ret own T G) {x y : Int64} (d : decode cc pc = .ok (.lcmp, 1)) (k : x_W p l e R s m args below meth c Q T G nL (pc + 1) lv (.int (lg_cmp x y) :: st) σ) : x_W p l e R s m args below meth c Q T G nL pc lv (.long y :: .long x :: st) σ :=
  fun H locs ls hl hP hS => W.lcmp C.1 C.2.1 d (k H locs ls hl hP hS)
theorem x_anull (C : x_C p s m args meth c cc nL ret own T G) (d : decode cc pc = .ok (.aconst_null, 1)) (k : x_W p l e R s m args below meth c Q T G nL (pc + 1) lv (.null :: st) σ) : x_W p l e R s m args below meth c Q T G nL pc lv st σ :=
  fun H locs ls hl hP hS => lv_null C.1 C.2.1 d (k H locs ls hl hP hS)
theorem x_astoreN_n (C : x_C p s m args meth c cc nL ret own T G) {f : Fin 4} {i : Nat} (lv2 : List (Nat × Value)) (d : decode cc pc = .ok (.astore_n f, 1)) (hi : (f : Nat) = i) (hn : i < nL) (hq : (i, Value.null) :: lv.filter (fun q => !(q.1 == i) && !(q.1 + 1 == i && q.2.category == 2)) = lv2) (k : x_W p l e R s m args below meth c Q T G nL (pc + 1) lv2 st σ) : x_W p l e R s m args below meth c Q T G nL pc lv (.null :: st) σ :=
  fun H locs ls hl hP hS => lv_astore_nN C.1 C.2.1 d hi hl hn hq (fun ls2 hl2 => k H locs ls2 hl2 hP hS)
theorem x_aloadN_n (C : x_C p s m args meth c cc nL ret own T G) {f : Fin 4} (q : Nat) {i : Nat} (d : decode cc pc = .ok (.aload_n f, 1)) (hi : (f : Nat) = i) (hq : lv[q]? = some (i, .null)) (k : x_W p l e R s m args below meth c Q T G nL (pc + 1) lv (.null :: st) σ) : x_W p l e R s m args below meth c Q T G nL pc lv st σ :=
  fun H locs ls hl hP hS => lv_aload_nN C.1 C.2.1 d hi (lv_at hl q hq) (k H locs ls hl hP hS)
theorem x_ifnullN (C : x_C p s m args meth c cc nL ret own T G) {off : Int} (tgt : Nat) (d : decode cc pc = .ok (.ifnull off, 3)) (ht : (pc : Int) + off = (tgt : Int)) (k : x_W p l e R s m args below meth c Q T G nL tgt lv st σ) : x_W p l e R s m args below meth c Q T G nL pc lv (.null :: st) σ :=
  fun H locs ls hl hP hS => lv_ifnullN C.1 C.2.1 d ht (k H locs ls hl hP hS)
theorem x_ifnonnullN (C : x_C p s m args meth c cc nL ret own T G) {off : Int} (d : decode cc pc = .ok (.ifnonnull off, 3)) (k : x_W p l e R s m args below meth c Q T G nL (pc + 3) lv st σ) : x_W p l e R s m args below meth c Q T G nL pc lv (.null :: st) σ :=
  fun H locs ls hl hP hS => lv_ifnonnullN C.1 C.2.1 d (k H locs ls hl hP hS)
theorem x_aret {o : Nat} {n : String} (C : x_C p s m args meth c cc nL (some (.object n)) own T G) (d : decode cc pc = .ok (.areturn, 1)) : x_W p l e R s m args below meth c (MQ below (x_Q T G (some (.ref (x_ad G o))) σ) args s 0 0 (x_A T G)) T G nL pc lv [.ref (x_ad G o)] σ := by
  intro H locs ls hl hP hS
  obtain ⟨hx, hb, hml, hret, hlk, hown, hts, hK, hG, hZ⟩ := C
  exact W.aret (v := .ref (x_ad G o)) hx hb hret (Or.inl ⟨_, rfl⟩) (Or.inr ⟨_, rfl⟩) (fun t ht hW => ⟨rfl, by rw [ht]; exact hP, hS.F ht⟩) hS.2.2 d
end XS
