section XR

variable {p : Program} {l : Launch} {e : Env} {R : Room} {s : State} {m : MethodId} {args : Array Value} {below : List Frame} {meth : Method} {c : Code} {Q : State → Prop} {cc : ByteArray} {nL : Nat} {ret : Option FieldType} {own : String} {T : x_Tb} {G : x_G} {pc : Nat} {lv : List (Nat × Value)} {st : List Value} {σ : x_Hp}

theorem x_iconst (C : x_C p s m args meth c cc nL ret own T G) {n : Int} (v : Int32) (d : decode cc pc = .ok (.iconst n, 1)) (hv : Int32.ofInt n = v) (k : x_W p l e R s m args below meth c Q T G nL (pc + 1) lv (.int v :: st) σ) : x_W p l e R s m args below meth c Q T G nL pc lv (st) σ :=
  fun H locs ls hl hP hS => lv_iconst C.1 C.2.1 d hv (k H locs ls hl hP hS)

theorem x_bipush (C : x_C p s m args meth c cc nL ret own T G) {n : Int} (v : Int32) (d : decode cc pc = .ok (.bipush n, 2)) (hv : (Int8.ofInt n).toInt32 = v) (k : x_W p l e R s m args below meth c Q T G nL (pc + 2) lv (.int v :: st) σ) : x_W p l e R s m args below meth c Q T G nL pc lv (st) σ :=
  fun H locs ls hl hP hS => lv_bipush C.1 C.2.1 d hv (k H locs ls hl hP hS)

theorem x_sipush (C : x_C p s m args meth c cc nL ret own T G) {n : Int} (v : Int32) (d : decode cc pc = .ok (.sipush n, 3)) (hv : (Int16.ofInt n).toInt32 = v) (k : x_W p l e R s m args below meth c Q T G nL (pc + 3) lv (.int v :: st) σ) : x_W p l e R s m args below meth c Q T G nL pc lv (st) σ :=
  fun H locs ls hl hP hS => lv_sipush C.1 C.2.1 d hv (k H locs ls hl hP hS)

theorem x_lconst (C : x_C p s m args meth c cc nL ret own T G) {n : Fin 2} (v : Int64) (d : decode cc pc = .ok (.lconst n, 1)) (hv : Int64.ofNat (n : Nat) = v) (k : x_W p l e R s m args below meth c Q T G nL (pc + 1) lv (.long v :: st) σ) : x_W p l e R s m args below meth c Q T G nL pc lv (st) σ :=
  fun H locs ls hl hP hS => lv_lconst C.1 C.2.1 d hv (k H locs ls hl hP hS)

theorem x_iload_n (C : x_C p s m args meth c cc nL ret own T G) {f : Fin 4} (q : Nat) {i : Nat} {x : Int32} (d : decode cc pc = .ok (.iload_n f, 1)) (hi : (f : Nat) = i) (hq : lv[q]? = some (i, .int x)) (k : x_W p l e R s m args below meth c Q T G nL (pc + 1) lv (.int x :: st) σ) : x_W p l e R s m args below meth c Q T G nL pc lv (st) σ :=
  fun H locs ls hl hP hS => lv_iload_n C.1 C.2.1 d hi (lv_at hl q hq) (k H locs ls hl hP hS)

theorem x_iload (C : x_C p s m args meth c cc nL ret own T G) (q : Nat) {i : Nat} {x : Int32} (d : decode cc pc = .ok (.iload i, 2)) (hq : lv[q]? = some (i, .int x)) (k : x_W p l e R s m args below meth c Q T G nL (pc + 2) lv (.int x :: st) σ) : x_W p l e R s m args below meth c Q T G nL pc lv (st) σ :=
  fun H locs ls hl hP hS => lv_iload C.1 C.2.1 d (lv_at hl q hq) (k H locs ls hl hP hS)

theorem x_istore_n (C : x_C p s m args meth c cc nL ret own T G) {f : Fin 4} {i : Nat} {x : Int32} (lv2 : List (Nat × Value)) (d : decode cc pc = .ok (.istore_n f, 1)) (hi : (f : Nat) = i) (hn : i < nL) (hq : (i, Value.int x) :: lv.filter (fun q => !(q.1 == i) && !(q.1 + 1 == i && q.2.category == 2)) = lv2) (k : x_W p l e R s m args below meth c Q T G nL (pc + 1) lv2 st σ) : x_W p l e R s m args below meth c Q T G nL pc lv (.int x :: st) σ :=
  fun H locs ls hl hP hS => lv_istore_n C.1 C.2.1 d hi hl hn hq (fun ls2 hl2 => k H locs ls2 hl2 hP hS)

theorem x_istore (C : x_C p s m args meth c cc nL ret own T G) {i : Nat} {x : Int32} (lv2 : List (Nat × Value)) (d : decode cc pc = .ok (.istore i, 2)) (hn : i < nL) (hq : (i, Value.int x) :: lv.filter (fun q => !(q.1 == i) && !(q.1 + 1 == i && q.2.category == 2)) = lv2) (k : x_W p l e R s m args below meth c Q T G nL (pc + 2) lv2 st σ) : x_W p l e R s m args below meth c Q T G nL pc lv (.int x :: st) σ :=
  fun H locs ls hl hP hS => lv_istore C.1 C.2.1 d hl hn hq (fun ls2 hl2 => k H locs ls2 hl2 hP hS)

theorem x_aload_n (C : x_C p s m args meth c cc nL ret own T G) {f : Fin 4} (q : Nat) {i : Nat} {x : Nat} (d : decode cc pc = .ok (.aload_n f, 1)) (hi : (f : Nat) = i) (hq : lv[q]? = some (i, .ref x)) (k : x_W p l e R s m args below meth c Q T G nL (pc + 1) lv (.ref x :: st) σ) : x_W p l e R s m args below meth c Q T G nL pc lv (st) σ :=
  fun H locs ls hl hP hS => lv_aload_n C.1 C.2.1 d hi (lv_at hl q hq) (k H locs ls hl hP hS)

theorem x_aload (C : x_C p s m args meth c cc nL ret own T G) (q : Nat) {i : Nat} {x : Nat} (d : decode cc pc = .ok (.aload i, 2)) (hq : lv[q]? = some (i, .ref x)) (k : x_W p l e R s m args below meth c Q T G nL (pc + 2) lv (.ref x :: st) σ) : x_W p l e R s m args below meth c Q T G nL pc lv (st) σ :=
  fun H locs ls hl hP hS => lv_aload C.1 C.2.1 d (lv_at hl q hq) (k H locs ls hl hP hS)

theorem x_astore_n (C : x_C p s m args meth c cc nL ret own T G) {f : Fin 4} {i : Nat} {x : Nat} (lv2 : List (Nat × Value)) (d : decode cc pc = .ok (.astore_n f, 1)) (hi : (f : Nat) = i) (hn : i < nL) (hq : (i, Value.ref x) :: lv.filter (fun q => !(q.1 == i) && !(q.1 + 1 == i && q.2.category == 2)) = lv2) (k : x_W p l e R s m args below meth c Q T G nL (pc + 1) lv2 st σ) : x_W p l e R s m args below meth c Q T G nL pc lv (.ref x :: st) σ :=
  fun H locs ls hl hP hS => lv_astore_n C.1 C.2.1 d hi hl hn hq (fun ls2 hl2 => k H locs ls2 hl2 hP hS)

theorem x_astore (C : x_C p s m args meth c cc nL ret own T G) {i : Nat} {x : Nat} (lv2 : List (Nat × Value)) (d : decode cc pc = .ok (.astore i, 2)) (hn : i < nL) (hq : (i, Value.ref x) :: lv.filter (fun q => !(q.1 == i) && !(q.1 + 1 == i && q.2.category == 2)) = lv2) (k : x_W p l e R s m args below meth c Q T G nL (pc + 2) lv2 st σ) : x_W p l e R s m args below meth c Q T G nL pc lv (.ref x :: st) σ :=
  fun H locs ls hl hP hS => lv_astore C.1 C.2.1 d hl hn hq (fun ls2 hl2 => k H locs ls2 hl2 hP hS)

theorem x_lload_n (C : x_C p s m args meth c cc nL ret own T G) {f : Fin 4} (q : Nat) {i : Nat} {x : Int64} (d : decode cc pc = .ok (.lload_n f, 1)) (hi : (f : Nat) = i) (hq : lv[q]? = some (i, .long x)) (k : x_W p l e R s m args below meth c Q T G nL (pc + 1) lv (.long x :: st) σ) : x_W p l e R s m args below meth c Q T G nL pc lv (st) σ :=
  fun H locs ls hl hP hS => lv_lload_n C.1 C.2.1 d hi (lv_at hl q hq) (k H locs ls hl hP hS)

theorem x_lload (C : x_C p s m args meth c cc nL ret own T G) (q : Nat) {i : Nat} {x : Int64} (d : decode cc pc = .ok (.lload i, 2)) (hq : lv[q]? = some (i, .long x)) (k : x_W p l e R s m args below meth c Q T G nL (pc + 2) lv (.long x :: st) σ) : x_W p l e R s m args below meth c Q T G nL pc lv (st) σ :=
  fun H locs ls hl hP hS => lv_lload C.1 C.2.1 d (lv_at hl q hq) (k H locs ls hl hP hS)

theorem x_lstore_n (C : x_C p s m args meth c cc nL ret own T G) {f : Fin 4} {i : Nat} {x : Int64} (lv2 : List (Nat × Value)) (d : decode cc pc = .ok (.lstore_n f, 1)) (hi : (f : Nat) = i) (hn : i + 1 < nL) (hq : (i, Value.long x) :: lv.filter (fun q => !(q.1 == i) && (!(q.1 == i + 1) && !(q.1 + 1 == i && q.2.category == 2))) = lv2) (k : x_W p l e R s m args below meth c Q T G nL (pc + 1) lv2 st σ) : x_W p l e R s m args below meth c Q T G nL pc lv (.long x :: st) σ :=
  fun H locs ls hl hP hS => lv_lstore_n C.1 C.2.1 d hi hl hn hq (fun ls2 hl2 => k H locs ls2 hl2 hP hS)

theorem x_lstore (C : x_C p s m args meth c cc nL ret own T G) {i : Nat} {x : Int64} (lv2 : List (Nat × Value)) (d : decode cc pc = .ok (.lstore i, 2)) (hn : i + 1 < nL) (hq : (i, Value.long x) :: lv.filter (fun q => !(q.1 == i) && (!(q.1 == i + 1) && !(q.1 + 1 == i && q.2.category == 2))) = lv2) (k : x_W p l e R s m args below meth c Q T G nL (pc + 2) lv2 st σ) : x_W p l e R s m args below meth c Q T G nL pc lv (.long x :: st) σ :=
  fun H locs ls hl hP hS => lv_lstore C.1 C.2.1 d hl hn hq (fun ls2 hl2 => k H locs ls2 hl2 hP hS)

theorem x_iinc (C : x_C p s m args meth c cc nL ret own T G) (q : Nat) {i : Nat} {n : Int} {x : Int32} (v : Int32) (lv2 : List (Nat × Value)) (d : decode cc pc = .ok (.iinc i n, 3)) (hq : lv[q]? = some (i, .int x)) (hv : x + Int32.ofInt n = v) (hn : i < nL) (hl2 : (i, Value.int v) :: lv.filter (fun q => !(q.1 == i) && !(q.1 + 1 == i && q.2.category == 2)) = lv2) (k : x_W p l e R s m args below meth c Q T G nL (pc + 3) lv2 st σ) : x_W p l e R s m args below meth c Q T G nL pc lv st σ :=
  fun H locs ls hl hP hS => lv_iinc C.1 C.2.1 d hl hq hv hn hl2 (fun ls2 h2 => k H locs ls2 h2 hP hS)

theorem x_iadd (C : x_C p s m args meth c cc nL ret own T G) {x y : Int32} (d : decode cc pc = .ok (.iadd, 1)) (k : x_W p l e R s m args below meth c Q T G nL (pc + 1) lv (.int (x + y) :: st) σ) : x_W p l e R s m args below meth c Q T G nL pc lv (.int y :: .int x :: st) σ :=
  fun H locs ls hl hP hS => lv_iadd C.1 C.2.1 d (k H locs ls hl hP hS)

theorem x_isub (C : x_C p s m args meth c cc nL ret own T G) {x y : Int32} (d : decode cc pc = .ok (.isub, 1)) (k : x_W p l e R s m args below meth c Q T G nL (pc + 1) lv (.int (x - y) :: st) σ) : x_W p l e R s m args below meth c Q T G nL pc lv (.int y :: .int x :: st) σ :=
  fun H locs ls hl hP hS => lv_isub C.1 C.2.1 d (k H locs ls hl hP hS)

theorem x_imul (C : x_C p s m args meth c cc nL ret own T G) {x y : Int32} (d : decode cc pc = .ok (.imul, 1)) (k : x_W p l e R s m args below meth c Q T G nL (pc + 1) lv (.int (x * y) :: st) σ) : x_W p l e R s m args below meth c Q T G nL pc lv (.int y :: .int x :: st) σ :=
  fun H locs ls hl hP hS => lv_imul C.1 C.2.1 d (k H locs ls hl hP hS)

theorem x_iand (C : x_C p s m args meth c cc nL ret own T G) {x y : Int32} (d : decode cc pc = .ok (.iand, 1)) (k : x_W p l e R s m args below meth c Q T G nL (pc + 1) lv (.int (x &&& y) :: st) σ) : x_W p l e R s m args below meth c Q T G nL pc lv (.int y :: .int x :: st) σ :=
  fun H locs ls hl hP hS => lv_iand C.1 C.2.1 d (k H locs ls hl hP hS)

theorem x_ior (C : x_C p s m args meth c cc nL ret own T G) {x y : Int32} (d : decode cc pc = .ok (.ior, 1)) (k : x_W p l e R s m args below meth c Q T G nL (pc + 1) lv (.int (x ||| y) :: st) σ) : x_W p l e R s m args below meth c Q T G nL pc lv (.int y :: .int x :: st) σ :=
  fun H locs ls hl hP hS => lv_ior C.1 C.2.1 d (k H locs ls hl hP hS)

theorem x_ixor (C : x_C p s m args meth c cc nL ret own T G) {x y : Int32} (d : decode cc pc = .ok (.ixor, 1)) (k : x_W p l e R s m args below meth c Q T G nL (pc + 1) lv (.int (x ^^^ y) :: st) σ) : x_W p l e R s m args below meth c Q T G nL pc lv (.int y :: .int x :: st) σ :=
  fun H locs ls hl hP hS => lv_ixor C.1 C.2.1 d (k H locs ls hl hP hS)

theorem x_ishl (C : x_C p s m args meth c cc nL ret own T G) {x y : Int32} (d : decode cc pc = .ok (.ishl, 1)) (k : x_W p l e R s m args below meth c Q T G nL (pc + 1) lv (.int (x <<< (y &&& 31)) :: st) σ) : x_W p l e R s m args below meth c Q T G nL pc lv (.int y :: .int x :: st) σ :=
  fun H locs ls hl hP hS => lv_ishl C.1 C.2.1 d (k H locs ls hl hP hS)

theorem x_ishr (C : x_C p s m args meth c cc nL ret own T G) {x y : Int32} (d : decode cc pc = .ok (.ishr, 1)) (k : x_W p l e R s m args below meth c Q T G nL (pc + 1) lv (.int (x >>> (y &&& 31)) :: st) σ) : x_W p l e R s m args below meth c Q T G nL pc lv (.int y :: .int x :: st) σ :=
  fun H locs ls hl hP hS => lv_ishr C.1 C.2.1 d (k H locs ls hl hP hS)

theorem x_iushr (C : x_C p s m args meth c cc nL ret own T G) {x y : Int32} (d : decode cc pc = .ok (.iushr, 1)) (k : x_W p l e R s m args below meth c Q T G nL (pc + 1) lv (.int ((x.toUInt32 >>> (y.toUInt32 &&& Int32.toUInt32 31)).toInt32) :: st) σ) : x_W p l e R s m args below meth c Q T G nL pc lv (.int y :: .int x :: st) σ :=
  fun H locs ls hl hP hS => lv_iushr C.1 C.2.1 d rfl (k H locs ls hl hP hS)

theorem x_idiv (C : x_C p s m args meth c cc nL ret own T G) {x y : Int32} (d : decode cc pc = .ok (.idiv, 1)) (hne : ¬ y = 0) (k : x_W p l e R s m args below meth c Q T G nL (pc + 1) lv (.int (x / y) :: st) σ) : x_W p l e R s m args below meth c Q T G nL pc lv (.int y :: .int x :: st) σ :=
  fun H locs ls hl hP hS => lv_idiv C.1 C.2.1 d hne (k H locs ls hl hP hS)

theorem x_irem (C : x_C p s m args meth c cc nL ret own T G) {x y : Int32} (d : decode cc pc = .ok (.irem, 1)) (hne : ¬ y = 0) (k : x_W p l e R s m args below meth c Q T G nL (pc + 1) lv (.int (x - x / y * y) :: st) σ) : x_W p l e R s m args below meth c Q T G nL pc lv (.int y :: .int x :: st) σ :=
  fun H locs ls hl hP hS => lv_irem C.1 C.2.1 d hne (k H locs ls hl hP hS)

theorem x_i2l (C : x_C p s m args meth c cc nL ret own T G) {x : Int32} (d : decode cc pc = .ok (.i2l, 1)) (k : x_W p l e R s m args below meth c Q T G nL (pc + 1) lv (.long x.toInt64 :: st) σ) : x_W p l e R s m args below meth c Q T G nL pc lv (.int x :: st) σ :=
  fun H locs ls hl hP hS => lv_i2l C.1 C.2.1 d rfl (k H locs ls hl hP hS)

theorem x_l2i (C : x_C p s m args meth c cc nL ret own T G) {x : Int64} (d : decode cc pc = .ok (.l2i, 1)) (k : x_W p l e R s m args below meth c Q T G nL (pc + 1) lv (.int x.toInt32 :: st) σ) : x_W p l e R s m args below meth c Q T G nL pc lv (.long x :: st) σ :=
  fun H locs ls hl hP hS => lv_l2i C.1 C.2.1 d rfl (k H locs ls hl hP hS)

theorem x_i2b (C : x_C p s m args meth c cc nL ret own T G) {x : Int32} (d : decode cc pc = .ok (.i2b, 1)) (k : x_W p l e R s m args below meth c Q T G nL (pc + 1) lv (.int x.toInt8.toInt32 :: st) σ) : x_W p l e R s m args below meth c Q T G nL pc lv (.int x :: st) σ :=
  fun H locs ls hl hP hS => lv_i2b C.1 C.2.1 d rfl (k H locs ls hl hP hS)

theorem x_i2c (C : x_C p s m args meth c cc nL ret own T G) {x : Int32} (d : decode cc pc = .ok (.i2c, 1)) (k : x_W p l e R s m args below meth c Q T G nL (pc + 1) lv (.int (x.toUInt32 % 65536).toInt32 :: st) σ) : x_W p l e R s m args below meth c Q T G nL pc lv (.int x :: st) σ :=
  fun H locs ls hl hP hS => lv_i2c C.1 C.2.1 d rfl (k H locs ls hl hP hS)

theorem x_ladd (C : x_C p s m args meth c cc nL ret own T G) {x y : Int64} (d : decode cc pc = .ok (.ladd, 1)) (k : x_W p l e R s m args below meth c Q T G nL (pc + 1) lv (.long (x + y) :: st) σ) : x_W p l e R s m args below meth c Q T G nL pc lv (.long y :: .long x :: st) σ :=
  fun H locs ls hl hP hS => lv_ladd C.1 C.2.1 d (k H locs ls hl hP hS)

theorem x_lmul (C : x_C p s m args meth c cc nL ret own T G) {x y : Int64} (d : decode cc pc = .ok (.lmul, 1)) (k : x_W p l e R s m args below meth c Q T G nL (pc + 1) lv (.long (x * y) :: st) σ) : x_W p l e R s m args below meth c Q T G nL pc lv (.long y :: .long x :: st) σ :=
  fun H locs ls hl hP hS => lv_lmul C.1 C.2.1 d (k H locs ls hl hP hS)

theorem x_dup (C : x_C p s m args meth c cc nL ret own T G) {v : Value} (d : decode cc pc = .ok (.dup, 1)) (hv : v.category = 1) (k : x_W p l e R s m args below meth c Q T G nL (pc + 1) lv (v :: v :: st) σ) : x_W p l e R s m args below meth c Q T G nL pc lv (v :: st) σ :=
  fun H locs ls hl hP hS => lv_dup C.1 C.2.1 d hv (k H locs ls hl hP hS)

theorem x_pop (C : x_C p s m args meth c cc nL ret own T G) {v : Value} (d : decode cc pc = .ok (.pop, 1)) (hv : v.category = 1) (k : x_W p l e R s m args below meth c Q T G nL (pc + 1) lv (st) σ) : x_W p l e R s m args below meth c Q T G nL pc lv (v :: st) σ :=
  fun H locs ls hl hP hS => lv_pop C.1 C.2.1 d hv (k H locs ls hl hP hS)

theorem x_dup2 (C : x_C p s m args meth c cc nL ret own T G) {v w : Value} (d : decode cc pc = .ok (.dup2, 1)) (hv : v.category = 1) (hw : w.category = 1) (k : x_W p l e R s m args below meth c Q T G nL (pc + 1) lv (v :: w :: v :: w :: st) σ) : x_W p l e R s m args below meth c Q T G nL pc lv (v :: w :: st) σ :=
  fun H locs ls hl hP hS => lv_dup2_11 C.1 C.2.1 d hv hw (k H locs ls hl hP hS)

theorem x_icmp_eq (C : x_C p s m args meth c cc nL ret own T G) {x y : Int32} {off : Int} (tgt : Nat) (d : decode cc pc = .ok (.if_icmp .eq off, 3)) (ht : (pc : Int) + off = (tgt : Int)) (kt : x = y → x_W p l e R s m args below meth c Q T G nL tgt lv st σ) (kf : ¬ x = y → x_W p l e R s m args below meth c Q T G nL (pc + 3) lv st σ) : x_W p l e R s m args below meth c Q T G nL pc lv (.int y :: .int x :: st) σ :=
  fun H locs ls hl hP hS => lv_icmp_eq C.1 C.2.1 d ht (fun z => kt z H locs ls hl hP hS) (fun z => kf z H locs ls hl hP hS)

theorem x_icmp_ne (C : x_C p s m args meth c cc nL ret own T G) {x y : Int32} {off : Int} (tgt : Nat) (d : decode cc pc = .ok (.if_icmp .ne off, 3)) (ht : (pc : Int) + off = (tgt : Int)) (kt : ¬ x = y → x_W p l e R s m args below meth c Q T G nL tgt lv st σ) (kf : x = y → x_W p l e R s m args below meth c Q T G nL (pc + 3) lv st σ) : x_W p l e R s m args below meth c Q T G nL pc lv (.int y :: .int x :: st) σ :=
  fun H locs ls hl hP hS => lv_icmp_ne C.1 C.2.1 d ht (fun z => kt z H locs ls hl hP hS) (fun z => kf z H locs ls hl hP hS)

theorem x_icmp_lt (C : x_C p s m args meth c cc nL ret own T G) {x y : Int32} {off : Int} (tgt : Nat) (d : decode cc pc = .ok (.if_icmp .lt off, 3)) (ht : (pc : Int) + off = (tgt : Int)) (kt : x < y → x_W p l e R s m args below meth c Q T G nL tgt lv st σ) (kf : ¬ x < y → x_W p l e R s m args below meth c Q T G nL (pc + 3) lv st σ) : x_W p l e R s m args below meth c Q T G nL pc lv (.int y :: .int x :: st) σ :=
  fun H locs ls hl hP hS => lv_icmp_lt C.1 C.2.1 d ht (fun z => kt z H locs ls hl hP hS) (fun z => kf z H locs ls hl hP hS)

theorem x_icmp_ge (C : x_C p s m args meth c cc nL ret own T G) {x y : Int32} {off : Int} (tgt : Nat) (d : decode cc pc = .ok (.if_icmp .ge off, 3)) (ht : (pc : Int) + off = (tgt : Int)) (kt : y ≤ x → x_W p l e R s m args below meth c Q T G nL tgt lv st σ) (kf : ¬ y ≤ x → x_W p l e R s m args below meth c Q T G nL (pc + 3) lv st σ) : x_W p l e R s m args below meth c Q T G nL pc lv (.int y :: .int x :: st) σ :=
  fun H locs ls hl hP hS => lv_icmp_ge C.1 C.2.1 d ht (fun z => kt z H locs ls hl hP hS) (fun z => kf z H locs ls hl hP hS)

theorem x_icmp_gt (C : x_C p s m args meth c cc nL ret own T G) {x y : Int32} {off : Int} (tgt : Nat) (d : decode cc pc = .ok (.if_icmp .gt off, 3)) (ht : (pc : Int) + off = (tgt : Int)) (kt : y < x → x_W p l e R s m args below meth c Q T G nL tgt lv st σ) (kf : ¬ y < x → x_W p l e R s m args below meth c Q T G nL (pc + 3) lv st σ) : x_W p l e R s m args below meth c Q T G nL pc lv (.int y :: .int x :: st) σ :=
  fun H locs ls hl hP hS => lv_icmp_gt C.1 C.2.1 d ht (fun z => kt z H locs ls hl hP hS) (fun z => kf z H locs ls hl hP hS)

theorem x_icmp_le (C : x_C p s m args meth c cc nL ret own T G) {x y : Int32} {off : Int} (tgt : Nat) (d : decode cc pc = .ok (.if_icmp .le off, 3)) (ht : (pc : Int) + off = (tgt : Int)) (kt : x ≤ y → x_W p l e R s m args below meth c Q T G nL tgt lv st σ) (kf : ¬ x ≤ y → x_W p l e R s m args below meth c Q T G nL (pc + 3) lv st σ) : x_W p l e R s m args below meth c Q T G nL pc lv (.int y :: .int x :: st) σ :=
  fun H locs ls hl hP hS => lv_icmp_le C.1 C.2.1 d ht (fun z => kt z H locs ls hl hP hS) (fun z => kf z H locs ls hl hP hS)

theorem x_if_eq (C : x_C p s m args meth c cc nL ret own T G) {x : Int32} {off : Int} (tgt : Nat) (d : decode cc pc = .ok (.ifCond .eq off, 3)) (ht : (pc : Int) + off = (tgt : Int)) (kt : x = 0 → x_W p l e R s m args below meth c Q T G nL tgt lv st σ) (kf : ¬ x = 0 → x_W p l e R s m args below meth c Q T G nL (pc + 3) lv st σ) : x_W p l e R s m args below meth c Q T G nL pc lv (.int x :: st) σ :=
  fun H locs ls hl hP hS => lv_if_eq C.1 C.2.1 d ht (fun z => kt z H locs ls hl hP hS) (fun z => kf z H locs ls hl hP hS)

theorem x_if_ne (C : x_C p s m args meth c cc nL ret own T G) {x : Int32} {off : Int} (tgt : Nat) (d : decode cc pc = .ok (.ifCond .ne off, 3)) (ht : (pc : Int) + off = (tgt : Int)) (kt : ¬ x = 0 → x_W p l e R s m args below meth c Q T G nL tgt lv st σ) (kf : x = 0 → x_W p l e R s m args below meth c Q T G nL (pc + 3) lv st σ) : x_W p l e R s m args below meth c Q T G nL pc lv (.int x :: st) σ :=
  fun H locs ls hl hP hS => lv_if_ne C.1 C.2.1 d ht (fun z => kt z H locs ls hl hP hS) (fun z => kf z H locs ls hl hP hS)

theorem x_if_lt (C : x_C p s m args meth c cc nL ret own T G) {x : Int32} {off : Int} (tgt : Nat) (d : decode cc pc = .ok (.ifCond .lt off, 3)) (ht : (pc : Int) + off = (tgt : Int)) (kt : x < 0 → x_W p l e R s m args below meth c Q T G nL tgt lv st σ) (kf : ¬ x < 0 → x_W p l e R s m args below meth c Q T G nL (pc + 3) lv st σ) : x_W p l e R s m args below meth c Q T G nL pc lv (.int x :: st) σ :=
  fun H locs ls hl hP hS => lv_if_lt C.1 C.2.1 d ht (fun z => kt z H locs ls hl hP hS) (fun z => kf z H locs ls hl hP hS)

theorem x_if_ge (C : x_C p s m args meth c cc nL ret own T G) {x : Int32} {off : Int} (tgt : Nat) (d : decode cc pc = .ok (.ifCond .ge off, 3)) (ht : (pc : Int) + off = (tgt : Int)) (kt : 0 ≤ x → x_W p l e R s m args below meth c Q T G nL tgt lv st σ) (kf : ¬ 0 ≤ x → x_W p l e R s m args below meth c Q T G nL (pc + 3) lv st σ) : x_W p l e R s m args below meth c Q T G nL pc lv (.int x :: st) σ :=
  fun H locs ls hl hP hS => lv_if_ge C.1 C.2.1 d ht (fun z => kt z H locs ls hl hP hS) (fun z => kf z H locs ls hl hP hS)

theorem x_if_gt (C : x_C p s m args meth c cc nL ret own T G) {x : Int32} {off : Int} (tgt : Nat) (d : decode cc pc = .ok (.ifCond .gt off, 3)) (ht : (pc : Int) + off = (tgt : Int)) (kt : 0 < x → x_W p l e R s m args below meth c Q T G nL tgt lv st σ) (kf : ¬ 0 < x → x_W p l e R s m args below meth c Q T G nL (pc + 3) lv st σ) : x_W p l e R s m args below meth c Q T G nL pc lv (.int x :: st) σ :=
  fun H locs ls hl hP hS => lv_if_gt C.1 C.2.1 d ht (fun z => kt z H locs ls hl hP hS) (fun z => kf z H locs ls hl hP hS)

theorem x_if_le (C : x_C p s m args meth c cc nL ret own T G) {x : Int32} {off : Int} (tgt : Nat) (d : decode cc pc = .ok (.ifCond .le off, 3)) (ht : (pc : Int) + off = (tgt : Int)) (kt : x ≤ 0 → x_W p l e R s m args below meth c Q T G nL tgt lv st σ) (kf : ¬ x ≤ 0 → x_W p l e R s m args below meth c Q T G nL (pc + 3) lv st σ) : x_W p l e R s m args below meth c Q T G nL pc lv (.int x :: st) σ :=
  fun H locs ls hl hP hS => lv_if_le C.1 C.2.1 d ht (fun z => kt z H locs ls hl hP hS) (fun z => kf z H locs ls hl hP hS)

theorem x_goto (C : x_C p s m args meth c cc nL ret own T G) {off : Int} (tgt : Nat) (d : decode cc pc = .ok (.goto off, 3)) (ht : (pc : Int) + off = (tgt : Int)) (k : x_W p l e R s m args below meth c Q T G nL tgt lv st σ) : x_W p l e R s m args below meth c Q T G nL pc lv st σ :=
  fun H locs ls hl hP hS => lv_goto C.1 C.2.1 d ht (k H locs ls hl hP hS)

theorem x_ts_out (C : x_C p s m args meth c cc nL ret own T G) {dflt lo hi : Int} {offs : Array Int} {len : Nat} {x : Int32} (tgt : Nat) (d : decode cc pc = .ok (.tableswitch dflt lo hi offs, len)) (h : x.toInt < lo ∨ hi < x.toInt) (ht : (pc : Int) + dflt = (tgt : Int)) (k : x_W p l e R s m args below meth c Q T G nL tgt lv st σ) : x_W p l e R s m args below meth c Q T G nL pc lv (.int x :: st) σ :=
  fun H locs ls hl hP hS => lv_tableOut C.1 C.2.1 d h ht (k H locs ls hl hP hS)
theorem x_ts_in (C : x_C p s m args meth c cc nL ret own T G) {dflt lo hi : Int} {offs : Array Int} {len : Nat} {x : Int32} (off : Int) (tgt : Nat) (d : decode cc pc = .ok (.tableswitch dflt lo hi offs, len)) (h1 : ¬ x.toInt < lo) (h2 : ¬ hi < x.toInt) (ho : offs[(x.toInt - lo).toNat]? = some off) (ht : (pc : Int) + off = (tgt : Int)) (k : x_W p l e R s m args below meth c Q T G nL tgt lv st σ) : x_W p l e R s m args below meth c Q T G nL pc lv (.int x :: st) σ :=
  fun H locs ls hl hP hS => lv_tableIn C.1 C.2.1 d h1 h2 ho ht (k H locs ls hl hP hS)
theorem x_ldc (C : x_C p s m args meth c cc nL ret own T G) {index : Nat} {v : Int32} (hc : Cond.constant own index v ∈ x_tbl) (d : decode cc pc = .ok (.ldc index, 2)) (k : x_W p l e R s m args below meth c Q T G nL (pc + 2) lv (.int v :: st) σ) : x_W p l e R s m args below meth c Q T G nL pc lv st σ :=
  fun H locs ls hl hP hS => lv_ldc C.1 C.2.1 C.2.2.2.2.2.1 (C.2.2.2.2.2.2.1 _ hc) d (k H locs ls hl hP hS)
theorem x_ldcw (C : x_C p s m args meth c cc nL ret own T G) {index : Nat} {v : Int32} (hc : Cond.constant own index v ∈ x_tbl) (d : decode cc pc = .ok (.ldc_w index, 3)) (k : x_W p l e R s m args below meth c Q T G nL (pc + 3) lv (.int v :: st) σ) : x_W p l e R s m args below meth c Q T G nL pc lv st σ :=
  fun H locs ls hl hP hS => lv_ldcw C.1 C.2.1 C.2.2.2.2.2.1 (C.2.2.2.2.2.2.1 _ hc) d (k H locs ls hl hP hS)
theorem x_ldc2 (C : x_C p s m args meth c cc nL ret own T G) {index : Nat} {v : Int64} (hc : Cond.constantLong own index v ∈ x_tbl) (d : decode cc pc = .ok (.ldc2_w index, 3)) (k : x_W p l e R s m args below meth c Q T G nL (pc + 3) lv (.long v :: st) σ) : x_W p l e R s m args below meth c Q T G nL pc lv st σ :=
  fun H locs ls hl hP hS => lv_ldc2 C.1 C.2.1 C.2.2.2.2.2.1 (C.2.2.2.2.2.2.1 _ hc) d (k H locs ls hl hP hS)

theorem x_ifnull (C : x_C p s m args meth c cc nL ret own T G) {x : Nat} {off : Int} (d : decode cc pc = .ok (.ifnull off, 3)) (k : x_W p l e R s m args below meth c Q T G nL (pc + 3) lv st σ) : x_W p l e R s m args below meth c Q T G nL pc lv (.ref x :: st) σ :=
  fun H locs ls hl hP hS => lv_ifnull C.1 C.2.1 d (k H locs ls hl hP hS)
theorem x_ifnonnull (C : x_C p s m args meth c cc nL ret own T G) {x : Nat} {off : Int} (tgt : Nat) (d : decode cc pc = .ok (.ifnonnull off, 3)) (ht : (pc : Int) + off = (tgt : Int)) (k : x_W p l e R s m args below meth c Q T G nL tgt lv st σ) : x_W p l e R s m args below meth c Q T G nL pc lv (.ref x :: st) σ :=
  fun H locs ls hl hP hS => lv_ifnonnull C.1 C.2.1 d ht (k H locs ls hl hP hS)

theorem x_lt (hG : x_OK T G) {o ci : Nat} (hk : x_kd T o = ci) (h : ci < 16) : o < T.1 := (hG.1 o).mp (by rw [hk]; exact h)
theorem x_getI (C : x_C p s m args meth c cc nL ret own T G) {o ci k index : Nat} {ref Cn : String} {Tt : u_T} {Nn : Nat} (hk : x_kd T o = ci) (h10 : ci < 10) (hc : vwCl[ci]? = some (Cn, Tt, Nn)) (hin : ∀ w ∈ u_ws Cn Tt Nn, w ∈ x_tbl) (hn : k < Nn) (hf : k < x_nf ci) (hr : x_isR ci k = false) (href : ref = (Tt k).1) (hlink : Cond.fieldLink own index ref (Tt k).2.1 (Tt k).2.2.1 ∈ x_tbl) (d : decode cc pc = .ok (.getfield index, 3))
    (k : x_W p l e R s m args below meth c Q T G nL (pc + 3) lv (.int (σ.1 o k) :: st) σ) : x_W p l e R s m args below meth c Q T G nL pc lv (.ref (x_ad G o) :: st) σ := by
  intro H locs ls hl hP hS
  obtain ⟨hx, hb, hml, hret, hlk, hown, hts, hK, hG, hZ⟩ := C
  have he : (x_ws T G σ)[o]? = some (x_ad G o, .inr (ci, x_fs ci (fun k => .ref (x_ad G (x_rf T o k))) (σ.1 o))) := by rw [x_ws_at T G σ (x_lt hG hk (by omega)), x_E_o hk h10]
  exact va_get hx hb hts hin hown hK hP o he hc _ hn (hts _ hlink) (fun x h => by rw [href]; exact h) (by rw [x_fs_get _ _ hf, hr]; rfl) d (k H locs ls hl hP hS)
theorem x_getR (C : x_C p s m args meth c cc nL ret own T G) {o ci k index : Nat} {ref Cn : String} {Tt : u_T} {Nn : Nat} (hk : x_kd T o = ci) (h10 : ci < 10) (hc : vwCl[ci]? = some (Cn, Tt, Nn)) (hin : ∀ w ∈ u_ws Cn Tt Nn, w ∈ x_tbl) (hn : k < Nn) (hf : k < x_nf ci) (hr : x_isR ci k = true) (href : ref = (Tt k).1) (hlink : Cond.fieldLink own index ref (Tt k).2.1 (Tt k).2.2.1 ∈ x_tbl) (d : decode cc pc = .ok (.getfield index, 3))
    (k : x_W p l e R s m args below meth c Q T G nL (pc + 3) lv (.ref (x_ad G (x_rf T o k)) :: st) σ) : x_W p l e R s m args below meth c Q T G nL pc lv (.ref (x_ad G o) :: st) σ := by
  intro H locs ls hl hP hS
  obtain ⟨hx, hb, hml, hret, hlk, hown, hts, hK, hG, hZ⟩ := C
  have he : (x_ws T G σ)[o]? = some (x_ad G o, .inr (ci, x_fs ci (fun k => .ref (x_ad G (x_rf T o k))) (σ.1 o))) := by rw [x_ws_at T G σ (x_lt hG hk (by omega)), x_E_o hk h10]
  exact va_get hx hb hts hin hown hK hP o he hc _ hn (hts _ hlink) (fun x h => by rw [href]; exact h) (by rw [x_fs_get _ _ hf, hr]; rfl) d (k H locs ls hl hP hS)

theorem x_putI (C : x_C p s m args meth c cc nL ret own T G) {o ci k index : Nat} {ref Cn : String} {Tt : u_T} {Nn : Nat} {v : Int32} {ty : FieldType} (ty0 : Nat → FieldType) (hk : x_kd T o = ci) (h10 : ci < 10) (hc : vwCl[ci]? = some (Cn, Tt, Nn)) (hin : ∀ w ∈ u_ws Cn Tt Nn, w ∈ x_tbl) (hty : ∀ k, k < Nn → parseFieldDescriptor (Tt k).2.2.1 = some (ty0 k)) (hnm : ∀ a, a < Nn → ∀ b, b < Nn → a ≠ b → (Tt a).2.1 ≠ (Tt b).2.1) (hn : k < Nn) (hf : k < x_nf ci) (hr : x_isR ci k = false) (href : ref = (Tt k).1) (hlink : Cond.fieldLink own index ref (Tt k).2.1 (Tt k).2.2.1 ∈ x_tbl) (hfin : (Tt k).2.2.2 = false) (hd : parseFieldDescriptor (Tt k).2.2.1 = some ty) (hnar : narrow ty (.int v) = .int v) (hfit : fits ty (.int v) = true) (d : decode cc pc = .ok (.putfield index, 3))
    (k : x_W p l e R s m args below meth c Q T G nL (pc + 3) lv st (x_pI σ o k v)) : x_W p l e R s m args below meth c Q T G nL pc lv (.int v :: .ref (x_ad G o) :: st) σ := by
  intro H locs ls hl hP hS
  obtain ⟨hx, hb, hml, hret, hlk, hown, hts, hK, hG, hZ⟩ := C
  have ho := x_lt hG hk (by omega)
  have he : (x_ws T G σ)[o]? = some (x_ad G o, .inr (ci, x_fs ci (fun k => .ref (x_ad G (x_rf T o k))) (σ.1 o))) := by rw [x_ws_at T G σ ho, x_E_o hk h10]
  refine va_put hx hb hts hin ty0 hty hnm hown hK hP (x_vaD hG σ) hS o he hc _ hn (hts _ hlink) (fun x h => by rw [href]; exact h) hfin hd hnar hfit (by simp [x_fs, hf]) d (fun H1 locs1 hP1 hD1 hS1 => k H1 locs1 ls hl ?_ hS1)
  rw [x_fs_set _ _ _ hr, x_ws_set T G σ (x_pI σ o _ v) _ (by rw [x_E_o hk h10]; simp [x_pI, x_u]; rfl) (fun j hj => x_E_pI hj)] at hP1
  exact hP1

theorem x_iald (C : x_C p s m args meth c cc nL ret own T G) {o : Nat} {i : Int32} (hk : x_kd T o = 12) (hi : x_inb i (x_ln T o) = true) (d : decode cc pc = .ok (.iaload, 1)) (k : x_W p l e R s m args below meth c Q T G nL (pc + 1) lv (.int (σ.1 o (x_ix i)) :: st) σ) : x_W p l e R s m args below meth c Q T G nL pc lv (.int i :: .ref (x_ad G o) :: st) σ := by
  intro H locs ls hl hP hS
  obtain ⟨hx, hb, hml, hret, hlk, hown, hts, hK, hG, hZ⟩ := C
  exact va_iald hx hb hK hP o 2 (by rw [x_ws_at T G σ (x_lt hG hk (by decide)), x_E_i hk (by decide) (by decide) (by decide)]; rfl) rfl (x_inb_in hi) d (k H locs ls hl hP hS)

theorem x_bald (C : x_C p s m args meth c cc nL ret own T G) {o : Nat} {i : Int32} (hk : x_kd T o = 10) (hi : x_inb i (x_ln T o) = true) (d : decode cc pc = .ok (.baload, 1)) (k : x_W p l e R s m args below meth c Q T G nL (pc + 1) lv (.int (σ.1 o (x_ix i)) :: st) σ) : x_W p l e R s m args below meth c Q T G nL pc lv (.int i :: .ref (x_ad G o) :: st) σ := by
  intro H locs ls hl hP hS
  obtain ⟨hx, hb, hml, hret, hlk, hown, hts, hK, hG, hZ⟩ := C
  exact va_bald hx hb hK hP o 0 (by rw [x_ws_at T G σ (x_lt hG hk (by decide)), x_E_i hk (by decide) (by decide) (by decide)]; rfl) rfl (x_inb_in hi) d (k H locs ls hl hP hS)

theorem x_zald (C : x_C p s m args meth c cc nL ret own T G) {o : Nat} {i : Int32} (hk : x_kd T o = 14) (hi : x_inb i (x_ln T o) = true) (d : decode cc pc = .ok (.baload, 1)) (k : x_W p l e R s m args below meth c Q T G nL (pc + 1) lv (.int (σ.1 o (x_ix i)) :: st) σ) : x_W p l e R s m args below meth c Q T G nL pc lv (.int i :: .ref (x_ad G o) :: st) σ := by
  intro H locs ls hl hP hS
  obtain ⟨hx, hb, hml, hret, hlk, hown, hts, hK, hG, hZ⟩ := C
  exact va_zald hx hb hK hP o 4 (by rw [x_ws_at T G σ (x_lt hG hk (by decide)), x_E_i hk (by decide) (by decide) (by decide)]; rfl) rfl (x_inb_in hi) d (k H locs ls hl hP hS)

theorem x_cald (C : x_C p s m args meth c cc nL ret own T G) {o : Nat} {i : Int32} (hk : x_kd T o = 11) (hi : x_inb i (x_ln T o) = true) (d : decode cc pc = .ok (.caload, 1)) (k : x_W p l e R s m args below meth c Q T G nL (pc + 1) lv (.int (σ.1 o (x_ix i)) :: st) σ) : x_W p l e R s m args below meth c Q T G nL pc lv (.int i :: .ref (x_ad G o) :: st) σ := by
  intro H locs ls hl hP hS
  obtain ⟨hx, hb, hml, hret, hlk, hown, hts, hK, hG, hZ⟩ := C
  exact va_cald hx hb hK hP o 1 (by rw [x_ws_at T G σ (x_lt hG hk (by decide)), x_E_i hk (by decide) (by decide) (by decide)]; rfl) rfl (x_inb_in hi) d (k H locs ls hl hP hS)

theorem x_lald (C : x_C p s m args meth c cc nL ret own T G) {o : Nat} {i : Int32} (hk : x_kd T o = 13) (hi : x_inb i (x_ln T o) = true) (d : decode cc pc = .ok (.laload, 1)) (k : x_W p l e R s m args below meth c Q T G nL (pc + 1) lv (.long (σ.2 o (x_ix i)) :: st) σ) : x_W p l e R s m args below meth c Q T G nL pc lv (.int i :: .ref (x_ad G o) :: st) σ := by
  intro H locs ls hl hP hS
  obtain ⟨hx, hb, hml, hret, hlk, hown, hts, hK, hG, hZ⟩ := C
  exact va_lald hx hb hK hP o 3 (by rw [x_ws_at T G σ (x_lt hG hk (by decide)), x_E_l hk]) rfl (x_inb_in hi) d (k H locs ls hl hP hS)
theorem x_aldq (C : x_C p s m args meth c cc nL ret own T G) {o : Nat} {i : Int32} (hk : x_kd T o = 15) (hi : x_inb i (x_ln T o) = true) (d : decode cc pc = .ok (.aaload, 1)) (k : x_W p l e R s m args below meth c Q T G nL (pc + 1) lv (.ref (x_ad G (x_rf T o (x_ix i))) :: st) σ) : x_W p l e R s m args below meth c Q T G nL pc lv (.int i :: .ref (x_ad G o) :: st) σ := by
  intro H locs ls hl hP hS
  obtain ⟨hx, hb, hml, hret, hlk, hown, hts, hK, hG, hZ⟩ := C
  exact va_aldq (f := fun j => some (x_ad G (x_rf T o j))) hx hb hK hP o 5 (by rw [x_ws_at T G σ (x_lt hG hk (by decide)), x_E_q hk]) rfl (x_inb_in hi) d (k H locs ls hl hP hS)

theorem x_iast (C : x_C p s m args meth c cc nL ret own T G) {o : Nat} {i x : Int32} (hk : x_kd T o = 12) (hi : x_inb i (x_ln T o) = true) (d : decode cc pc = .ok (.iastore, 1)) (k : x_W p l e R s m args below meth c Q T G nL (pc + 1) lv st (x_pI σ o (x_ix i) x)) : x_W p l e R s m args below meth c Q T G nL pc lv (.int x :: .int i :: .ref (x_ad G o) :: st) σ := by
  intro H locs ls hl hP hS
  obtain ⟨hx, hb, hml, hret, hlk, hown, hts, hK, hG, hZ⟩ := C
  have hE : ∀ τ, x_E T G τ o = .inl (G.2.1 2, x_ln T o, .inl (τ.1 o)) := fun τ => by rw [x_E_i hk (by decide) (by decide) (by decide)]; rfl
  refine va_iast hx hb hK hP (x_vaD hG σ) hS o 2 (by rw [x_ws_at T G σ (x_lt hG hk (by decide)), hE]) rfl (x_inb_in hi) d (fun H1 locs1 hP1 hD1 hS1 => k H1 locs1 ls hl ?_ hS1)
  rw [x_ws_set T G σ (x_pI σ o (x_ix i) x) _ (by rw [hE]; simp [x_pI, x_u]; rfl) (fun j hj => x_E_pI hj)] at hP1
  exact hP1

theorem x_bast (C : x_C p s m args meth c cc nL ret own T G) {o : Nat} {i x : Int32} (hk : x_kd T o = 10) (hi : x_inb i (x_ln T o) = true) (d : decode cc pc = .ok (.bastore, 1)) (k : x_W p l e R s m args below meth c Q T G nL (pc + 1) lv st (x_pI σ o (x_ix i) (vp_nar .byte x))) : x_W p l e R s m args below meth c Q T G nL pc lv (.int x :: .int i :: .ref (x_ad G o) :: st) σ := by
  intro H locs ls hl hP hS
  obtain ⟨hx, hb, hml, hret, hlk, hown, hts, hK, hG, hZ⟩ := C
  have hE : ∀ τ, x_E T G τ o = .inl (G.2.1 0, x_ln T o, .inl (τ.1 o)) := fun τ => by rw [x_E_i hk (by decide) (by decide) (by decide)]; rfl
  refine va_bast hx hb hK hP (x_vaD hG σ) hS o 0 (by rw [x_ws_at T G σ (x_lt hG hk (by decide)), hE]) rfl (x_inb_in hi) d (fun H1 locs1 hP1 hD1 hS1 => k H1 locs1 ls hl ?_ hS1)
  rw [x_ws_set T G σ (x_pI σ o (x_ix i) (vp_nar .byte x)) _ (by rw [hE]; simp [x_pI, x_u]; rfl) (fun j hj => x_E_pI hj)] at hP1
  exact hP1

theorem x_zast (C : x_C p s m args meth c cc nL ret own T G) {o : Nat} {i x : Int32} (hk : x_kd T o = 14) (hi : x_inb i (x_ln T o) = true) (d : decode cc pc = .ok (.bastore, 1)) (k : x_W p l e R s m args below meth c Q T G nL (pc + 1) lv st (x_pI σ o (x_ix i) (vp_nar .boolean x))) : x_W p l e R s m args below meth c Q T G nL pc lv (.int x :: .int i :: .ref (x_ad G o) :: st) σ := by
  intro H locs ls hl hP hS
  obtain ⟨hx, hb, hml, hret, hlk, hown, hts, hK, hG, hZ⟩ := C
  have hE : ∀ τ, x_E T G τ o = .inl (G.2.1 4, x_ln T o, .inl (τ.1 o)) := fun τ => by rw [x_E_i hk (by decide) (by decide) (by decide)]; rfl
  refine va_zast hx hb hK hP (x_vaD hG σ) hS o 4 (by rw [x_ws_at T G σ (x_lt hG hk (by decide)), hE]) rfl (x_inb_in hi) d (fun H1 locs1 hP1 hD1 hS1 => k H1 locs1 ls hl ?_ hS1)
  rw [x_ws_set T G σ (x_pI σ o (x_ix i) (vp_nar .boolean x)) _ (by rw [hE]; simp [x_pI, x_u]; rfl) (fun j hj => x_E_pI hj)] at hP1
  exact hP1

theorem x_cast (C : x_C p s m args meth c cc nL ret own T G) {o : Nat} {i x : Int32} (hk : x_kd T o = 11) (hi : x_inb i (x_ln T o) = true) (d : decode cc pc = .ok (.castore, 1)) (k : x_W p l e R s m args below meth c Q T G nL (pc + 1) lv st (x_pI σ o (x_ix i) (vp_nar .char x))) : x_W p l e R s m args below meth c Q T G nL pc lv (.int x :: .int i :: .ref (x_ad G o) :: st) σ := by
  intro H locs ls hl hP hS
  obtain ⟨hx, hb, hml, hret, hlk, hown, hts, hK, hG, hZ⟩ := C
  have hE : ∀ τ, x_E T G τ o = .inl (G.2.1 1, x_ln T o, .inl (τ.1 o)) := fun τ => by rw [x_E_i hk (by decide) (by decide) (by decide)]; rfl
  refine va_cast hx hb hK hP (x_vaD hG σ) hS o 1 (by rw [x_ws_at T G σ (x_lt hG hk (by decide)), hE]) rfl (x_inb_in hi) d (fun H1 locs1 hP1 hD1 hS1 => k H1 locs1 ls hl ?_ hS1)
  rw [x_ws_set T G σ (x_pI σ o (x_ix i) (vp_nar .char x)) _ (by rw [hE]; simp [x_pI, x_u]; rfl) (fun j hj => x_E_pI hj)] at hP1
  exact hP1

theorem x_last (C : x_C p s m args meth c cc nL ret own T G) {o : Nat} {i : Int32} {x : Int64} (hk : x_kd T o = 13) (hi : x_inb i (x_ln T o) = true) (d : decode cc pc = .ok (.lastore, 1)) (k : x_W p l e R s m args below meth c Q T G nL (pc + 1) lv st (x_pL σ o (x_ix i) x)) : x_W p l e R s m args below meth c Q T G nL pc lv (.long x :: .int i :: .ref (x_ad G o) :: st) σ := by
  intro H locs ls hl hP hS
  obtain ⟨hx, hb, hml, hret, hlk, hown, hts, hK, hG, hZ⟩ := C
  refine va_last hx hb hK hP (x_vaD hG σ) hS o 3 (by rw [x_ws_at T G σ (x_lt hG hk (by decide)), x_E_l hk]) rfl (x_inb_in hi) d (fun H1 locs1 hP1 hD1 hS1 => k H1 locs1 ls hl ?_ hS1)
  rw [x_ws_set T G σ (x_pL σ o (x_ix i) x) _ (by rw [x_E_l hk]; simp [x_pL, x_u]; rfl) (fun j hj => x_E_pL hj)] at hP1
  exact hP1
theorem x_alen (C : x_C p s m args meth c cc nL ret own T G) {o kk : Nat} (n : Int32) (hk : x_kd T o = kk) (h : kk = 10 ∨ kk = 11 ∨ kk = 12 ∨ kk = 14 ∨ kk = 13 ∨ kk = 15) (hn : Int32.ofNat (x_ln T o) = n) (d : decode cc pc = .ok (.arraylength, 1)) (k : x_W p l e R s m args below meth c Q T G nL (pc + 1) lv (.int n :: st) σ) : x_W p l e R s m args below meth c Q T G nL pc lv (.ref (x_ad G o) :: st) σ := by
  intro H locs ls hl hP hS
  obtain ⟨hx, hb, hml, hret, hlk, hown, hts, hK, hG, hZ⟩ := C
  have ho : o < T.1 := x_lt hG hk (by omega)
  rcases h with h | h | h | h | h | h <;> subst h
  · exact va_alen hx hb hK hP o 0 (x := (x_ln T o, .inl (σ.1 o))) (by rw [x_ws_at T G σ ho, x_E_i hk (by decide) (by decide) (by decide)]; rfl) rfl hn d (k H locs ls hl hP hS)
  · exact va_alen hx hb hK hP o 1 (x := (x_ln T o, .inl (σ.1 o))) (by rw [x_ws_at T G σ ho, x_E_i hk (by decide) (by decide) (by decide)]; rfl) rfl hn d (k H locs ls hl hP hS)
  · exact va_alen hx hb hK hP o 2 (x := (x_ln T o, .inl (σ.1 o))) (by rw [x_ws_at T G σ ho, x_E_i hk (by decide) (by decide) (by decide)]; rfl) rfl hn d (k H locs ls hl hP hS)
  · exact va_alen hx hb hK hP o 4 (x := (x_ln T o, .inl (σ.1 o))) (by rw [x_ws_at T G σ ho, x_E_i hk (by decide) (by decide) (by decide)]; rfl) rfl hn d (k H locs ls hl hP hS)
  · exact va_alen hx hb hK hP o 3 (x := (x_ln T o, .inr (.inl (σ.2 o)))) (by rw [x_ws_at T G σ ho, x_E_l hk]) rfl hn d (k H locs ls hl hP hS)
  · exact va_alen hx hb hK hP o 5 (x := (x_ln T o, .inr (.inr (.inr (.inr (fun j => some (x_ad G (x_rf T o j)))))))) (by rw [x_ws_at T G σ ho, x_E_q hk]) rfl hn d (k H locs ls hl hP hS)

theorem x_inl {o L : Nat} {i : Int32} (h : x_ln T o = L) (hb : x_inb i L = true) : x_inb i (x_ln T o) = true := by rw [h]; exact hb
theorem x_getRq (C : x_C p s m args meth c cc nL ret own T G) {o ci k index q : Nat} {ref Cn : String} {Tt : u_T} {Nn : Nat} (hk : x_kd T o = ci) (h10 : ci < 10) (hc : vwCl[ci]? = some (Cn, Tt, Nn)) (hin : ∀ w ∈ u_ws Cn Tt Nn, w ∈ x_tbl) (hn : k < Nn) (hf : k < x_nf ci) (hr : x_isR ci k = true) (href : ref = (Tt k).1) (hlink : Cond.fieldLink own index ref (Tt k).2.1 (Tt k).2.2.1 ∈ x_tbl) (hq : x_rf T o k = q) (d : decode cc pc = .ok (.getfield index, 3))
    (k : x_W p l e R s m args below meth c Q T G nL (pc + 3) lv (.ref (x_ad G q) :: st) σ) : x_W p l e R s m args below meth c Q T G nL pc lv (.ref (x_ad G o) :: st) σ := by
  subst hq
  exact x_getR C hk h10 hc hin hn hf hr href hlink d k

theorem x_ialdJ (C : x_C p s m args meth c cc nL ret own T G) {o j : Nat} {i : Int32} (hk : x_kd T o = 12) (hi : x_inb i (x_ln T o) = true) (hj : x_ix i = j) (d : decode cc pc = .ok (.iaload, 1)) (k : x_W p l e R s m args below meth c Q T G nL (pc + 1) lv (.int (σ.1 o j) :: st) σ) : x_W p l e R s m args below meth c Q T G nL pc lv (.int i :: .ref (x_ad G o) :: st) σ := by
  subst hj
  exact x_iald C hk hi d k

theorem x_baldJ (C : x_C p s m args meth c cc nL ret own T G) {o j : Nat} {i : Int32} (hk : x_kd T o = 10) (hi : x_inb i (x_ln T o) = true) (hj : x_ix i = j) (d : decode cc pc = .ok (.baload, 1)) (k : x_W p l e R s m args below meth c Q T G nL (pc + 1) lv (.int (σ.1 o j) :: st) σ) : x_W p l e R s m args below meth c Q T G nL pc lv (.int i :: .ref (x_ad G o) :: st) σ := by
  subst hj
  exact x_bald C hk hi d k

theorem x_zaldJ (C : x_C p s m args meth c cc nL ret own T G) {o j : Nat} {i : Int32} (hk : x_kd T o = 14) (hi : x_inb i (x_ln T o) = true) (hj : x_ix i = j) (d : decode cc pc = .ok (.baload, 1)) (k : x_W p l e R s m args below meth c Q T G nL (pc + 1) lv (.int (σ.1 o j) :: st) σ) : x_W p l e R s m args below meth c Q T G nL pc lv (.int i :: .ref (x_ad G o) :: st) σ := by
  subst hj
  exact x_zald C hk hi d k

theorem x_caldJ (C : x_C p s m args meth c cc nL ret own T G) {o j : Nat} {i : Int32} (hk : x_kd T o = 11) (hi : x_inb i (x_ln T o) = true) (hj : x_ix i = j) (d : decode cc pc = .ok (.caload, 1)) (k : x_W p l e R s m args below meth c Q T G nL (pc + 1) lv (.int (σ.1 o j) :: st) σ) : x_W p l e R s m args below meth c Q T G nL pc lv (.int i :: .ref (x_ad G o) :: st) σ := by
  subst hj
  exact x_cald C hk hi d k

theorem x_iastJ (C : x_C p s m args meth c cc nL ret own T G) {o j : Nat} {i x : Int32} (hk : x_kd T o = 12) (hi : x_inb i (x_ln T o) = true) (hj : x_ix i = j) (d : decode cc pc = .ok (.iastore, 1)) (k : x_W p l e R s m args below meth c Q T G nL (pc + 1) lv st (x_pI σ o j x)) : x_W p l e R s m args below meth c Q T G nL pc lv (.int x :: .int i :: .ref (x_ad G o) :: st) σ := by
  subst hj
  exact x_iast C hk hi d k

theorem x_bastJ (C : x_C p s m args meth c cc nL ret own T G) {o j : Nat} {i x : Int32} (hk : x_kd T o = 10) (hi : x_inb i (x_ln T o) = true) (hj : x_ix i = j) (d : decode cc pc = .ok (.bastore, 1)) (k : x_W p l e R s m args below meth c Q T G nL (pc + 1) lv st (x_pI σ o j (vp_nar .byte x))) : x_W p l e R s m args below meth c Q T G nL pc lv (.int x :: .int i :: .ref (x_ad G o) :: st) σ := by
  subst hj
  exact x_bast C hk hi d k

theorem x_zastJ (C : x_C p s m args meth c cc nL ret own T G) {o j : Nat} {i x : Int32} (hk : x_kd T o = 14) (hi : x_inb i (x_ln T o) = true) (hj : x_ix i = j) (d : decode cc pc = .ok (.bastore, 1)) (k : x_W p l e R s m args below meth c Q T G nL (pc + 1) lv st (x_pI σ o j (vp_nar .boolean x))) : x_W p l e R s m args below meth c Q T G nL pc lv (.int x :: .int i :: .ref (x_ad G o) :: st) σ := by
  subst hj
  exact x_zast C hk hi d k

theorem x_castJ (C : x_C p s m args meth c cc nL ret own T G) {o j : Nat} {i x : Int32} (hk : x_kd T o = 11) (hi : x_inb i (x_ln T o) = true) (hj : x_ix i = j) (d : decode cc pc = .ok (.castore, 1)) (k : x_W p l e R s m args below meth c Q T G nL (pc + 1) lv st (x_pI σ o j (vp_nar .char x))) : x_W p l e R s m args below meth c Q T G nL pc lv (.int x :: .int i :: .ref (x_ad G o) :: st) σ := by
  subst hj
  exact x_cast C hk hi d k

theorem x_lastJ (C : x_C p s m args meth c cc nL ret own T G) {o j : Nat} {i : Int32} {x : Int64} (hk : x_kd T o = 13) (hi : x_inb i (x_ln T o) = true) (hj : x_ix i = j) (d : decode cc pc = .ok (.lastore, 1)) (k : x_W p l e R s m args below meth c Q T G nL (pc + 1) lv st (x_pL σ o j x)) : x_W p l e R s m args below meth c Q T G nL pc lv (.long x :: .int i :: .ref (x_ad G o) :: st) σ := by
  subst hj
  exact x_last C hk hi d k

theorem x_iret {v : Int32} (C : x_C p s m args meth c cc nL (some .int) own T G) (d : decode cc pc = .ok (.ireturn, 1)) : x_W p l e R s m args below meth c (MQ below (x_Q T G (some (.int v)) σ) args s 0 0 (x_A T G)) T G nL pc lv [.int v] σ := by
  intro H locs ls hl hP hS
  obtain ⟨hx, hb, hml, hret, hlk, hown, hts, hK, hG, hZ⟩ := C
  exact W.iret (v := v) hx hb hret (fun t ht hW => ⟨rfl, by rw [ht]; exact hP, hS.F ht⟩) hS.2.2 d

theorem x_lret {v : Int64} (C : x_C p s m args meth c cc nL (some .long) own T G) (d : decode cc pc = .ok (.lreturn, 1)) : x_W p l e R s m args below meth c (MQ below (x_Q T G (some (.long v)) σ) args s 0 0 (x_A T G)) T G nL pc lv [.long v] σ := by
  intro H locs ls hl hP hS
  obtain ⟨hx, hb, hml, hret, hlk, hown, hts, hK, hG, hZ⟩ := C
  exact W.lret (v := v) hx hb hret (fun t ht hW => ⟨rfl, by rw [ht]; exact hP, hS.F ht⟩) hS.2.2 d

theorem x_zret {v : Int32} {ty : FieldType} (C : x_C p s m args meth c cc nL (some ty) own T G) (hn : narrow ty (.int v) = .int v) (d : decode cc pc = .ok (.ireturn, 1)) : x_W p l e R s m args below meth c (MQ below (x_Q T G (some (.int v)) σ) args s 0 0 (x_A T G)) T G nL pc lv [.int v] σ := by
  intro H locs ls hl hP hS
  obtain ⟨hx, hb, hml, hret, hlk, hown, hts, hK, hG, hZ⟩ := C
  exact W.zret (v := v) hx hb hret hn (fun t ht hW => ⟨rfl, by rw [ht]; exact hP, hS.F ht⟩) hS.2.2 d
theorem x_vret (C : x_C p s m args meth c cc nL none own T G) (d : decode cc pc = .ok (.return_, 1)) : x_W p l e R s m args below meth c (MQ below (x_Q T G none σ) args s 0 0 (x_A T G)) T G nL pc lv [] σ := by
  intro H locs ls hl hP hS
  obtain ⟨hx, hb, hml, hret, hlk, hown, hts, hK, hG, hZ⟩ := C
  exact W.vret hx hb hret (fun t ht hW => ⟨rfl, by rw [ht]; exact hP, hS.F ht⟩) hS.2.2 d

theorem x_wrf (U : State) : U.WarmedH U.vm := ⟨rfl, rfl, fun d k h => ⟨k, h, rfl, rfl, fun i => Or.inl rfl, Or.inl ⟨rfl, rfl⟩⟩⟩
theorem x_blind (hG : x_OK T G) (av : List Value) : FrameBlind (va_Pc av (x_Pr T G σ)) := by
  intro a U g mk h
  obtain ⟨h0, h1, h2, h3⟩ := h
  exact ⟨h0, h1, va_K.moved (u := U) (U := U.calling g mk a) (Vm.Alike.refl U.vm) h2, hG.2.2.1 U (U.calling g mk a) h3 (x_wrf U) (Nat.le_refl _) (fun _ _ _ => rfl)⟩
theorem x_pre (C : x_C p s m args meth c cc nL ret own T G) {H : Heap} {locs : List Loc} (hP : x_PW T G σ H) (hS : va_S (x_A T G) s.heap H locs) (av : List Value) : ∀ U : State, U.heap = H → s.WarmedH U.vm → va_Pc av (x_Pr T G σ) av.toArray U := by
  intro U hU hW
  obtain ⟨hx, hb, hml, hret, hlk, hown, hts, hK, hG, hZ⟩ := C
  exact ⟨rfl, by show x_PW T G σ U.heap; rw [hU]; exact hP, va_K.moved hW.alike hK, hG.2.2.1 s U hZ hW (by rw [hU]; exact hS.1) (fun q h1 h2 => by rw [hU]; exact hS.2.1 q h1 h2)⟩
theorem x_run {H : Heap} {locs : List Loc} {ls : Array Slot} {st0 : List Value} {a : Array Value} {rv : Option Value} {τ : x_Hp} (hr : va_Run p l e R s m args below meth c H locs 0 0 0 0 (F0 m pc ls st0) st (x_Q T G rv τ a) (x_A T G)) (hS : va_S (x_A T G) s.heap H locs)
    (kk : ∀ (H1 : Heap) (locs1 : List Loc), x_PW T G τ H1 → va_S (x_A T G) s.heap H1 locs1 → W p l e R s m args below meth c H1 locs1 0 0 Q (F0 m (pc + 3) ls (rv.toList ++ st))) : W p l e R s m args below meth c H locs 0 0 Q (F0 m pc ls st0) := by
  intro U hU X
  obtain ⟨v, st₀, t, U2, L, h0, X', hL, e1, e2, ⟨hv, hp, hz, hk⟩, stp⟩ := hr U hU X
  cases hv
  rw [h0] at hz hk
  obtain ⟨t2, a1, b1⟩ := kk U2.heap (locs ++ L) (by rw [e1]; exact hp)
    ⟨Nat.le_trans hS.1 (by rw [e1]; exact hz), fun q h1 h2 => by rw [e1, hk q (Nat.lt_of_lt_of_le h1 hS.1) h2]; exact hS.2.1 q h1 h2, fun q hq => by
      rcases List.mem_append.mp hq with h | h
      · exact hS.2.2 q h
      · exact hL q h⟩ U2 rfl X'
  exact ⟨t2, stp t2 a1, b1⟩
theorem x_callV (C : x_C p s m args meth c cc nL ret own T G) {y : MethodName} {b : ByteArray} {nL2 n index : Nat} {ret2 : Option FieldType} {rm2 : Room} {rv : Option Value} {τ : x_Hp} {st0 : List Value} {o ci : Nat} {av : List Value} {q : vw_C} (hM : x_M l T G y b nL2 ret2 rm2 (.ref (x_ad G o) :: av) σ rv τ) (hk : x_kd T o = ci) (h10 : ci < 10) (hc : vwCl[ci]? = some q) (hl : Cond.methodLink own index y ∈ x_tbl) (hi : Cond.instanceMethod y ∈ x_tbl) (hs : Cond.selects q.1 y y ∈ x_tbl) (hini : Cond.initialized q.1 ∈ x_tbl) (hcode : Cond.code y b nL2 ret2 ∈ x_tbl) (hd : y.cls = q.1 ∧ y.cls ≠ "java/lang/invoke/MethodHandle" ∧ y.cls ≠ "java/lang/invoke/VarHandle" ∧ (parseMethodDescriptor y.desc).map (fun d => d.parameters.length) = some n) (hn : av.length = n) (hR : rm2.frames + 1 ≤ R.frames ∧ 8 + (nL2 + 11) + rm2.locals ≤ R.locals) (hrm : rm2.cells = 0 ∧ rm2.slots = 0) (hst : st0 = av.reverse ++ .ref (x_ad G o) :: st) (hcat : (st.map fun v => v.category).sum ≤ 8) (d : decode cc pc = .ok (.invokevirtual index, 3)) (k : x_W p l e R s m args below meth c Q T G nL (pc + 3) lv (rv.toList ++ st) τ) : x_W p l e R s m args below meth c Q T G nL pc lv st0 σ := by
  intro H locs ls hls hP hS
  have C' := C
  obtain ⟨hx, hb, hml, hret, hlk, hown, hts, hK, hG, hZ⟩ := C
  have ho := x_lt hG hk (by omega)
  have he : (x_ws T G σ)[o]? = some (x_ad G o, .inr (ci, x_fs ci (fun k => .ref (x_ad G (x_rf T o k))) (σ.1 o))) := by rw [x_ws_at T G σ ho, x_E_o hk h10]
  refine x_run (va_runV (As := av) ⟨hx, hb, hml, hown, hts⟩ hM (cwV n hts ?_ rfl hrm.1 hrm.2 hd hR) ⟨x_blind hG _, va_recv hK hP hc he, x_pre C' hP hS _⟩ rfl hn hls.1 hst (lv_room hcat) d ⟨Nat.zero_le _, Nat.zero_le _⟩) hS (fun H1 locs1 hP1 hS1 => k H1 locs1 ls hls hP1 hS1)
  intro w hw
  rcases List.mem_append.mp hw with h | h
  · have hm : w ∈ x_tbl := by
      simp only [List.mem_cons, List.not_mem_nil, or_false] at h
      rcases h with h | h | h | h <;> subst h <;> assumption
    exact ⟨hm, good_of_word (List.mem_filter.mp hm).2⟩
  · exact x_goodIn hcode w h
theorem x_callS (C : x_C p s m args meth c cc nL ret own T G) {y : MethodName} {b : ByteArray} {nL2 n index : Nat} {ret2 : Option FieldType} {rm2 : Room} {rv : Option Value} {τ : x_Hp} {st0 : List Value} {av : List Value} (hM : x_M l T G y b nL2 ret2 rm2 av σ rv τ) (hl : Cond.methodLink own index y ∈ x_tbl) (hi : Cond.static y ∈ x_tbl) (hini : Cond.initialized own ∈ x_tbl) (hcode : Cond.code y b nL2 ret2 ∈ x_tbl) (hd : y.cls = own ∧ y.cls ≠ "java/lang/invoke/MethodHandle" ∧ y.cls ≠ "java/lang/invoke/VarHandle" ∧ (parseMethodDescriptor y.desc).map (fun d => d.parameters.length) = some n) (hn : av.length = n) (hR : rm2.frames + 1 ≤ R.frames ∧ 8 + (nL2 + 11) + rm2.locals ≤ R.locals) (hrm : rm2.cells = 0 ∧ rm2.slots = 0) (hst : st0 = av.reverse ++ st) (hcat : (st.map fun v => v.category).sum ≤ 8) (d : decode cc pc = .ok (.invokestatic index, 3)) (k : x_W p l e R s m args below meth c Q T G nL (pc + 3) lv (rv.toList ++ st) τ) : x_W p l e R s m args below meth c Q T G nL pc lv st0 σ := by
  intro H locs ls hls hP hS
  have C' := C
  obtain ⟨hx, hb, hml, hret, hlk, hown, hts, hK, hG, hZ⟩ := C
  refine x_run (va_runS (As := av) ⟨hx, hb, hml, hown, hts⟩ hM (cwS n hts ?_ rfl hrm.1 hrm.2 hd hR) ⟨x_blind hG _, x_pre C' hP hS _⟩ rfl hn hls.1 hst (lv_room hcat) d ⟨Nat.zero_le _, Nat.zero_le _⟩) hS (fun H1 locs1 hP1 hS1 => k H1 locs1 ls hls hP1 hS1)
  intro w hw
  rcases List.mem_append.mp hw with h | h
  · have hm : w ∈ x_tbl := by
      simp only [List.mem_cons, List.not_mem_nil, or_false] at h
      rcases h with h | h | h <;> subst h <;> assumption
    exact ⟨hm, good_of_word (List.mem_filter.mp hm).2⟩
  · exact x_goodIn hcode w h
theorem x_callSN (C : x_C p s m args meth c cc nL ret own T G) {y : MethodName} {b : ByteArray} {nL2 n index : Nat} {ret2 : Option FieldType} {rm2 : Room} {rv : Option Value} {τ : x_Hp} {st0 : List Value} {host : String} {i : Nat} {av : List Value} (hM : x_M l T G y b nL2 ret2 rm2 av σ rv τ) (hl : lw_tbl[i]? = some (Cond.methodLinkNest own index y host)) (hi : Cond.static y ∈ x_tbl) (hini : Cond.initialized y.cls ∈ x_tbl) (hcode : Cond.code y b nL2 ret2 ∈ x_tbl) (hd : y.cls ≠ "java/lang/invoke/MethodHandle" ∧ y.cls ≠ "java/lang/invoke/VarHandle" ∧ (parseMethodDescriptor y.desc).map (fun d => d.parameters.length) = some n) (hn : av.length = n) (hR : rm2.frames + 1 ≤ R.frames ∧ 8 + (nL2 + 11) + rm2.locals ≤ R.locals) (hrm : rm2.cells = 0 ∧ rm2.slots = 0) (hst : st0 = av.reverse ++ st) (hcat : (st.map fun v => v.category).sum ≤ 8) (d : decode cc pc = .ok (.invokestatic index, 3)) (k : x_W p l e R s m args below meth c Q T G nL (pc + 3) lv (rv.toList ++ st) τ) : x_W p l e R s m args below meth c Q T G nL pc lv st0 σ := by
  intro H locs ls hls hP hS
  have C' := C
  obtain ⟨hx, hb, hml, hret, hlk, hown, hts, hK, hG, hZ⟩ := C
  exact x_run (va_runSN (As := av) ⟨hx, hb, hml, hown, hts⟩ hM ⟨va_cnB n hts (x_goodIn hcode) rfl hrm.1 hrm.2 (hG.2.2.2.1 s hZ _ (List.mem_of_getElem? hl) rfl) (hts _ hini) hd hR, hts _ hi, trivial⟩ ⟨x_blind hG _, x_pre C' hP hS _⟩ rfl hn hls.1 hst (lv_room hcat) d ⟨Nat.zero_le _, Nat.zero_le _⟩) hS (fun H1 locs1 hP1 hS1 => k H1 locs1 ls hls hP1 hS1)
theorem x_max (C : x_C p s m args meth c cc nL ret own T G) {index : Nat} {x y : Int32} (hl : Cond.methodLink own index Lib.Math.max.name ∈ x_tbl) (hi : Cond.static Lib.Math.max.name ∈ x_tbl) (hini : Cond.initialized "java/lang/Math" ∈ x_tbl) (hcode : Cond.code Lib.Math.max.name Lib.Math.max.code 2 (some .int) ∈ x_tbl) (hR : 1 ≤ R.frames ∧ (st.map fun v => v.category).sum + 13 ≤ R.locals) (d : decode cc pc = .ok (.invokestatic index, 3)) (k : x_W p l e R s m args below meth c Q T G nL (pc + 3) lv (.int (if x < y then y else x) :: st) σ) : x_W p l e R s m args below meth c Q T G nL pc lv (.int y :: .int x :: st) σ := by
  intro H locs ls hls hP hS
  obtain ⟨hx, hb, hml, hret, hlk, hown, hts, hK, hG, hZ⟩ := C
  exact va_mmax hx hb (by rw [hml, hls.1]) hown (hts _ hl) (hts _ hi) (hts _ hini) (hts _ hcode) hR.1 hR.2 (Nat.zero_le _) (Nat.zero_le _) d (k H locs ls hls hP hS)
theorem x_min (C : x_C p s m args meth c cc nL ret own T G) {index : Nat} {x y : Int32} (hl : Cond.methodLink own index Lib.Math.min.name ∈ x_tbl) (hi : Cond.static Lib.Math.min.name ∈ x_tbl) (hini : Cond.initialized "java/lang/Math" ∈ x_tbl) (hcode : Cond.code Lib.Math.min.name Lib.Math.min.code 2 (some .int) ∈ x_tbl) (hR : 1 ≤ R.frames ∧ (st.map fun v => v.category).sum + 13 ≤ R.locals) (d : decode cc pc = .ok (.invokestatic index, 3)) (k : x_W p l e R s m args below meth c Q T G nL (pc + 3) lv (.int (if y < x then y else x) :: st) σ) : x_W p l e R s m args below meth c Q T G nL pc lv (.int y :: .int x :: st) σ := by
  intro H locs ls hls hP hS
  obtain ⟨hx, hb, hml, hret, hlk, hown, hts, hK, hG, hZ⟩ := C
  exact va_mmin hx hb (by rw [hml, hls.1]) hown (hts _ hl) (hts _ hi) (hts _ hini) (hts _ hcode) hR.1 hR.2 (Nat.zero_le _) (Nat.zero_le _) d (k H locs ls hls hP hS)

end XR
