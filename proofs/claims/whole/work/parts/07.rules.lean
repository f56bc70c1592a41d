section RULES
variable {Y : Card} {d mc ms : Nat} {R : Rs} {kc ks pc : Nat} {lv : LV} {st : List Value} {n : Nat} {im : IM} {rm : RM}
theorem r_iconst {i : Int} {v : Int32} (hd : decode Y.2.1 pc = .ok (.iconst i, 1)) (hv : Int32.ofInt i = v)
    (k : WW Y d mc ms R kc ks (pc + 1) lv (.int v :: st) n im rm) : WW Y d mc ms R kc ks pc lv (st) n im rm :=
  fun p l e s m args below meth c D ca b H locs ls C hl hP hF hL => lv_iconst C.1 C.2.1 hd hv (k p l e s m args below meth c D ca b H locs ls C hl hP hF hL)
theorem r_bipush {i : Int} {v : Int32} (hd : decode Y.2.1 pc = .ok (.bipush i, 2)) (hv : (Int8.ofInt i).toInt32 = v)
    (k : WW Y d mc ms R kc ks (pc + 2) lv (.int v :: st) n im rm) : WW Y d mc ms R kc ks pc lv (st) n im rm :=
  fun p l e s m args below meth c D ca b H locs ls C hl hP hF hL => lv_bipush C.1 C.2.1 hd hv (k p l e s m args below meth c D ca b H locs ls C hl hP hF hL)
theorem r_sipush {i : Int} {v : Int32} (hd : decode Y.2.1 pc = .ok (.sipush i, 3)) (hv : (Int16.ofInt i).toInt32 = v)
    (k : WW Y d mc ms R kc ks (pc + 3) lv (.int v :: st) n im rm) : WW Y d mc ms R kc ks pc lv (st) n im rm :=
  fun p l e s m args below meth c D ca b H locs ls C hl hP hF hL => lv_sipush C.1 C.2.1 hd hv (k p l e s m args below meth c D ca b H locs ls C hl hP hF hL)
theorem r_ldc {i : Nat} {v : Int32} (hd : decode Y.2.1 pc = .ok (.ldc i, 2)) (hc : Cond.constant Y.1.cls i v ∈ lw_tbl)
    (k : WW Y d mc ms R kc ks (pc + 2) lv (.int v :: st) n im rm) : WW Y d mc ms R kc ks pc lv (st) n im rm :=
  fun p l e s m args below meth c D ca b H locs ls C hl hP hF hL => lv_ldc C.1 C.2.1 C.2.2.2.2.1 (C.2.2.2.2.2.1 _ hc rfl) hd (k p l e s m args below meth c D ca b H locs ls C hl hP hF hL)
theorem r_ldcw {i : Nat} {v : Int32} (hd : decode Y.2.1 pc = .ok (.ldc_w i, 3)) (hc : Cond.constant Y.1.cls i v ∈ lw_tbl)
    (k : WW Y d mc ms R kc ks (pc + 3) lv (.int v :: st) n im rm) : WW Y d mc ms R kc ks pc lv (st) n im rm :=
  fun p l e s m args below meth c D ca b H locs ls C hl hP hF hL => lv_ldcw C.1 C.2.1 C.2.2.2.2.1 (C.2.2.2.2.2.1 _ hc rfl) hd (k p l e s m args below meth c D ca b H locs ls C hl hP hF hL)
theorem r_ldc2 {i : Nat} {v : Int64} (hd : decode Y.2.1 pc = .ok (.ldc2_w i, 3)) (hc : Cond.constantLong Y.1.cls i v ∈ lw_tbl)
    (k : WW Y d mc ms R kc ks (pc + 3) lv (.long v :: st) n im rm) : WW Y d mc ms R kc ks pc lv (st) n im rm :=
  fun p l e s m args below meth c D ca b H locs ls C hl hP hF hL => lv_ldc2 C.1 C.2.1 C.2.2.2.2.1 (C.2.2.2.2.2.1 _ hc rfl) hd (k p l e s m args below meth c D ca b H locs ls C hl hP hF hL)
theorem r_iload_n {i : Fin 4} {x : Int32} (hd : decode Y.2.1 pc = .ok (.iload_n i, 1)) (h : lk lv (i : Nat) = some (.int x))
    (k : WW Y d mc ms R kc ks (pc + 1) lv (.int x :: st) n im rm) : WW Y d mc ms R kc ks pc lv (st) n im rm :=
  fun p l e s m args below meth c D ca b H locs ls C hl hP hF hL => lv_iload_n C.1 C.2.1 hd rfl (lk_at hl h) (k p l e s m args below meth c D ca b H locs ls C hl hP hF hL)
theorem r_iload {i : Nat} {x : Int32} (hd : decode Y.2.1 pc = .ok (.iload i, 2)) (h : lk lv i = some (.int x))
    (k : WW Y d mc ms R kc ks (pc + 2) lv (.int x :: st) n im rm) : WW Y d mc ms R kc ks pc lv (st) n im rm :=
  fun p l e s m args below meth c D ca b H locs ls C hl hP hF hL => lv_iload C.1 C.2.1 hd (lk_at hl h) (k p l e s m args below meth c D ca b H locs ls C hl hP hF hL)
theorem r_aload_n {i : Fin 4} {x : Nat} (hd : decode Y.2.1 pc = .ok (.aload_n i, 1)) (h : lk lv (i : Nat) = some (.ref x))
    (k : WW Y d mc ms R kc ks (pc + 1) lv (.ref x :: st) n im rm) : WW Y d mc ms R kc ks pc lv (st) n im rm :=
  fun p l e s m args below meth c D ca b H locs ls C hl hP hF hL => lv_aload_n C.1 C.2.1 hd rfl (lk_at hl h) (k p l e s m args below meth c D ca b H locs ls C hl hP hF hL)
theorem r_aload {i : Nat} {x : Nat} (hd : decode Y.2.1 pc = .ok (.aload i, 2)) (h : lk lv i = some (.ref x))
    (k : WW Y d mc ms R kc ks (pc + 2) lv (.ref x :: st) n im rm) : WW Y d mc ms R kc ks pc lv (st) n im rm :=
  fun p l e s m args below meth c D ca b H locs ls C hl hP hF hL => lv_aload C.1 C.2.1 hd (lk_at hl h) (k p l e s m args below meth c D ca b H locs ls C hl hP hF hL)
theorem r_lload_n {i : Fin 4} {x : Int64} (hd : decode Y.2.1 pc = .ok (.lload_n i, 1)) (h : lk lv (i : Nat) = some (.long x))
    (k : WW Y d mc ms R kc ks (pc + 1) lv (.long x :: st) n im rm) : WW Y d mc ms R kc ks pc lv (st) n im rm :=
  fun p l e s m args below meth c D ca b H locs ls C hl hP hF hL => lv_lload_n C.1 C.2.1 hd rfl (lk_at hl h) (k p l e s m args below meth c D ca b H locs ls C hl hP hF hL)
theorem r_lload {i : Nat} {x : Int64} (hd : decode Y.2.1 pc = .ok (.lload i, 2)) (h : lk lv i = some (.long x))
    (k : WW Y d mc ms R kc ks (pc + 2) lv (.long x :: st) n im rm) : WW Y d mc ms R kc ks pc lv (st) n im rm :=
  fun p l e s m args below meth c D ca b H locs ls C hl hP hF hL => lv_lload C.1 C.2.1 hd (lk_at hl h) (k p l e s m args below meth c D ca b H locs ls C hl hP hF hL)
theorem r_istore_n {i : Fin 4} {x : Int32} (hd : decode Y.2.1 pc = .ok (.istore_n i, 1)) (hn : (i : Nat) < Y.2.2.1)
    (k : WW Y d mc ms R kc ks (pc + 1) (((i : Nat), .int x) :: ld lv (i : Nat)) st n im rm) : WW Y d mc ms R kc ks pc lv (.int x :: st) n im rm :=
  fun p l e s m args below meth c D ca b H locs ls C hl hP hF hL => lv_istore_n C.1 C.2.1 hd rfl hl hn (by rw [ld_map]; rfl) (fun ls hl => k p l e s m args below meth c D ca b H locs ls C hl hP hF hL)
theorem r_istore {i : Nat} {x : Int32} (hd : decode Y.2.1 pc = .ok (.istore i, 2)) (hn : i < Y.2.2.1)
    (k : WW Y d mc ms R kc ks (pc + 2) ((i, .int x) :: ld lv i) st n im rm) : WW Y d mc ms R kc ks pc lv (.int x :: st) n im rm :=
  fun p l e s m args below meth c D ca b H locs ls C hl hP hF hL => lv_istore C.1 C.2.1 hd hl hn (by rw [ld_map]; rfl) (fun ls hl => k p l e s m args below meth c D ca b H locs ls C hl hP hF hL)
theorem r_astore_n {i : Fin 4} {x : Nat} (hd : decode Y.2.1 pc = .ok (.astore_n i, 1)) (hn : (i : Nat) < Y.2.2.1)
    (k : WW Y d mc ms R kc ks (pc + 1) (((i : Nat), .ref x) :: ld lv (i : Nat)) st n im rm) : WW Y d mc ms R kc ks pc lv (.ref x :: st) n im rm :=
  fun p l e s m args below meth c D ca b H locs ls C hl hP hF hL => lv_astore_n C.1 C.2.1 hd rfl hl hn (by rw [ld_map]; rfl) (fun ls hl => k p l e s m args below meth c D ca b H locs ls C hl hP hF hL)
theorem r_astore {i : Nat} {x : Nat} (hd : decode Y.2.1 pc = .ok (.astore i, 2)) (hn : i < Y.2.2.1)
    (k : WW Y d mc ms R kc ks (pc + 2) ((i, .ref x) :: ld lv i) st n im rm) : WW Y d mc ms R kc ks pc lv (.ref x :: st) n im rm :=
  fun p l e s m args below meth c D ca b H locs ls C hl hP hF hL => lv_astore C.1 C.2.1 hd hl hn (by rw [ld_map]; rfl) (fun ls hl => k p l e s m args below meth c D ca b H locs ls C hl hP hF hL)
theorem r_lstore_n {i : Fin 4} {x : Int64} (hd : decode Y.2.1 pc = .ok (.lstore_n i, 1)) (hn : (i : Nat) + 1 < Y.2.2.1)
    (k : WW Y d mc ms R kc ks (pc + 1) (((i : Nat), .long x) :: ld2 lv (i : Nat)) st n im rm) : WW Y d mc ms R kc ks pc lv (.long x :: st) n im rm :=
  fun p l e s m args below meth c D ca b H locs ls C hl hP hF hL => lv_lstore_n C.1 C.2.1 hd rfl hl hn (by rw [ld2_map]; rfl) (fun ls hl => k p l e s m args below meth c D ca b H locs ls C hl hP hF hL)
theorem r_lstore {i : Nat} {x : Int64} (hd : decode Y.2.1 pc = .ok (.lstore i, 2)) (hn : i + 1 < Y.2.2.1)
    (k : WW Y d mc ms R kc ks (pc + 2) ((i, .long x) :: ld2 lv i) st n im rm) : WW Y d mc ms R kc ks pc lv (.long x :: st) n im rm :=
  fun p l e s m args below meth c D ca b H locs ls C hl hP hF hL => lv_lstore C.1 C.2.1 hd hl hn (by rw [ld2_map]; rfl) (fun ls hl => k p l e s m args below meth c D ca b H locs ls C hl hP hF hL)
theorem lk_idx : ∀ (l : LV) (i : Nat) (v : Value), lk l i = some v → ∃ j : Nat, l[j]? = some (i, v) := fun l i v h => List.getElem?_of_mem (lk_mem l i v h)
theorem r_iinc {i : Nat} {a : Int} {x v : Int32} (hd : decode Y.2.1 pc = .ok (.iinc i a, 3)) (h : lk lv i = some (.int x)) (hn : i < Y.2.2.1) (hv : x + Int32.ofInt a = v)
    (k : WW Y d mc ms R kc ks (pc + 3) ((i, .int v) :: ld lv i) st n im rm) : WW Y d mc ms R kc ks pc lv st n im rm := by
  intro p l e s m args below meth c D ca b H locs ls C hl hP hF hL
  obtain ⟨j, hj⟩ := lk_idx lv i _ h
  exact lv_iinc C.1 C.2.1 hd hl (k := j) (x := x) (by rw [List.getElem?_map, hj]; rfl) hv hn (by rw [ld_map]; rfl) (fun ls hl => k p l e s m args below meth c D ca b H locs ls C hl hP hF hL)
theorem r_iadd {x y : Int32} (hd : decode Y.2.1 pc = .ok (.iadd, 1))
    (k : WW Y d mc ms R kc ks (pc + 1) lv (.int (x + y) :: st) n im rm) : WW Y d mc ms R kc ks pc lv (.int y :: .int x :: st) n im rm :=
  fun p l e s m args below meth c D ca b H locs ls C hl hP hF hL => lv_iadd C.1 C.2.1 hd (k p l e s m args below meth c D ca b H locs ls C hl hP hF hL)
theorem r_isub {x y : Int32} (hd : decode Y.2.1 pc = .ok (.isub, 1))
    (k : WW Y d mc ms R kc ks (pc + 1) lv (.int (x - y) :: st) n im rm) : WW Y d mc ms R kc ks pc lv (.int y :: .int x :: st) n im rm :=
  fun p l e s m args below meth c D ca b H locs ls C hl hP hF hL => lv_isub C.1 C.2.1 hd (k p l e s m args below meth c D ca b H locs ls C hl hP hF hL)
theorem r_imul {x y : Int32} (hd : decode Y.2.1 pc = .ok (.imul, 1))
    (k : WW Y d mc ms R kc ks (pc + 1) lv (.int (x * y) :: st) n im rm) : WW Y d mc ms R kc ks pc lv (.int y :: .int x :: st) n im rm :=
  fun p l e s m args below meth c D ca b H locs ls C hl hP hF hL => lv_imul C.1 C.2.1 hd (k p l e s m args below meth c D ca b H locs ls C hl hP hF hL)
theorem r_iand {x y : Int32} (hd : decode Y.2.1 pc = .ok (.iand, 1))
    (k : WW Y d mc ms R kc ks (pc + 1) lv (.int (x &&& y) :: st) n im rm) : WW Y d mc ms R kc ks pc lv (.int y :: .int x :: st) n im rm :=
  fun p l e s m args below meth c D ca b H locs ls C hl hP hF hL => lv_iand C.1 C.2.1 hd (k p l e s m args below meth c D ca b H locs ls C hl hP hF hL)
theorem r_ior {x y : Int32} (hd : decode Y.2.1 pc = .ok (.ior, 1))
    (k : WW Y d mc ms R kc ks (pc + 1) lv (.int (x ||| y) :: st) n im rm) : WW Y d mc ms R kc ks pc lv (.int y :: .int x :: st) n im rm :=
  fun p l e s m args below meth c D ca b H locs ls C hl hP hF hL => lv_ior C.1 C.2.1 hd (k p l e s m args below meth c D ca b H locs ls C hl hP hF hL)
theorem r_ixor {x y : Int32} (hd : decode Y.2.1 pc = .ok (.ixor, 1))
    (k : WW Y d mc ms R kc ks (pc + 1) lv (.int (x ^^^ y) :: st) n im rm) : WW Y d mc ms R kc ks pc lv (.int y :: .int x :: st) n im rm :=
  fun p l e s m args below meth c D ca b H locs ls C hl hP hF hL => lv_ixor C.1 C.2.1 hd (k p l e s m args below meth c D ca b H locs ls C hl hP hF hL)
theorem r_ishl {x y : Int32} (hd : decode Y.2.1 pc = .ok (.ishl, 1))
    (k : WW Y d mc ms R kc ks (pc + 1) lv (.int (x <<< (y &&& 31)) :: st) n im rm) : WW Y d mc ms R kc ks pc lv (.int y :: .int x :: st) n im rm :=
  fun p l e s m args below meth c D ca b H locs ls C hl hP hF hL => lv_ishl C.1 C.2.1 hd (k p l e s m args below meth c D ca b H locs ls C hl hP hF hL)
theorem r_ishr {x y : Int32} (hd : decode Y.2.1 pc = .ok (.ishr, 1))
    (k : WW Y d mc ms R kc ks (pc + 1) lv (.int (x >>> (y &&& 31)) :: st) n im rm) : WW Y d mc ms R kc ks pc lv (.int y :: .int x :: st) n im rm :=
  fun p l e s m args below meth c D ca b H locs ls C hl hP hF hL => lv_ishr C.1 C.2.1 hd (k p l e s m args below meth c D ca b H locs ls C hl hP hF hL)
theorem r_iushr {x y v : Int32} (hd : decode Y.2.1 pc = .ok (.iushr, 1)) (hv : (x.toUInt32 >>> (y.toUInt32 &&& Int32.toUInt32 31)).toInt32 = v)
    (k : WW Y d mc ms R kc ks (pc + 1) lv (.int v :: st) n im rm) : WW Y d mc ms R kc ks pc lv (.int y :: .int x :: st) n im rm :=
  fun p l e s m args below meth c D ca b H locs ls C hl hP hF hL => lv_iushr C.1 C.2.1 hd hv (k p l e s m args below meth c D ca b H locs ls C hl hP hF hL)
theorem r_idiv {x y : Int32} (hd : decode Y.2.1 pc = .ok (.idiv, 1)) (hne : ¬ y = 0)
    (k : WW Y d mc ms R kc ks (pc + 1) lv (.int (x / y) :: st) n im rm) : WW Y d mc ms R kc ks pc lv (.int y :: .int x :: st) n im rm :=
  fun p l e s m args below meth c D ca b H locs ls C hl hP hF hL => lv_idiv C.1 C.2.1 hd hne (k p l e s m args below meth c D ca b H locs ls C hl hP hF hL)
theorem r_irem {x y : Int32} (hd : decode Y.2.1 pc = .ok (.irem, 1)) (hne : ¬ y = 0)
    (k : WW Y d mc ms R kc ks (pc + 1) lv (.int (x - x / y * y) :: st) n im rm) : WW Y d mc ms R kc ks pc lv (.int y :: .int x :: st) n im rm :=
  fun p l e s m args below meth c D ca b H locs ls C hl hP hF hL => lv_irem C.1 C.2.1 hd hne (k p l e s m args below meth c D ca b H locs ls C hl hP hF hL)
theorem r_ladd {x y : Int64} (hd : decode Y.2.1 pc = .ok (.ladd, 1))
    (k : WW Y d mc ms R kc ks (pc + 1) lv (.long (x + y) :: st) n im rm) : WW Y d mc ms R kc ks pc lv (.long y :: .long x :: st) n im rm :=
  fun p l e s m args below meth c D ca b H locs ls C hl hP hF hL => lv_ladd C.1 C.2.1 hd (k p l e s m args below meth c D ca b H locs ls C hl hP hF hL)
theorem r_lmul {x y : Int64} (hd : decode Y.2.1 pc = .ok (.lmul, 1))
    (k : WW Y d mc ms R kc ks (pc + 1) lv (.long (x * y) :: st) n im rm) : WW Y d mc ms R kc ks pc lv (.long y :: .long x :: st) n im rm :=
  fun p l e s m args below meth c D ca b H locs ls C hl hP hF hL => lv_lmul C.1 C.2.1 hd (k p l e s m args below meth c D ca b H locs ls C hl hP hF hL)
theorem r_land {x y : Int64} (hd : decode Y.2.1 pc = .ok (.land, 1))
    (k : WW Y d mc ms R kc ks (pc + 1) lv (.long (x &&& y) :: st) n im rm) : WW Y d mc ms R kc ks pc lv (.long y :: .long x :: st) n im rm :=
  fun p l e s m args below meth c D ca b H locs ls C hl hP hF hL => lv_land C.1 C.2.1 hd (k p l e s m args below meth c D ca b H locs ls C hl hP hF hL)
theorem r_ldiv {x y : Int64} (hd : decode Y.2.1 pc = .ok (.ldiv, 1)) (hne : ¬ y = 0)
    (k : WW Y d mc ms R kc ks (pc + 1) lv (.long (x / y) :: st) n im rm) : WW Y d mc ms R kc ks pc lv (.long y :: .long x :: st) n im rm :=
  fun p l e s m args below meth c D ca b H locs ls C hl hP hF hL => lv_ldiv C.1 C.2.1 hd hne (k p l e s m args below meth c D ca b H locs ls C hl hP hF hL)
theorem r_lrem {x y : Int64} (hd : decode Y.2.1 pc = .ok (.lrem, 1)) (hne : ¬ y = 0)
    (k : WW Y d mc ms R kc ks (pc + 1) lv (.long (x - x / y * y) :: st) n im rm) : WW Y d mc ms R kc ks pc lv (.long y :: .long x :: st) n im rm :=
  fun p l e s m args below meth c D ca b H locs ls C hl hP hF hL => lv_lrem C.1 C.2.1 hd hne (k p l e s m args below meth c D ca b H locs ls C hl hP hF hL)
theorem r_i2l {x : Int32} (hd : decode Y.2.1 pc = .ok (.i2l, 1))
    (k : WW Y d mc ms R kc ks (pc + 1) lv (.long x.toInt64 :: st) n im rm) : WW Y d mc ms R kc ks pc lv (.int x :: st) n im rm :=
  fun p l e s m args below meth c D ca b H locs ls C hl hP hF hL => lv_i2l C.1 C.2.1 hd rfl (k p l e s m args below meth c D ca b H locs ls C hl hP hF hL)
theorem r_l2i {x : Int64} (hd : decode Y.2.1 pc = .ok (.l2i, 1))
    (k : WW Y d mc ms R kc ks (pc + 1) lv (.int x.toInt32 :: st) n im rm) : WW Y d mc ms R kc ks pc lv (.long x :: st) n im rm :=
  fun p l e s m args below meth c D ca b H locs ls C hl hP hF hL => lv_l2i C.1 C.2.1 hd rfl (k p l e s m args below meth c D ca b H locs ls C hl hP hF hL)
theorem r_goto {off : Int} {tgt : Nat} (hd : decode Y.2.1 pc = .ok (.goto off, 3)) (ht : (pc : Int) + off = (tgt : Int)) (k : WW Y d mc ms R kc ks tgt lv st n im rm) : WW Y d mc ms R kc ks pc lv st n im rm :=
  fun p l e s m args below meth c D ca b H locs ls C hl hP hF hL => lv_goto C.1 C.2.1 hd ht (k p l e s m args below meth c D ca b H locs ls C hl hP hF hL)
theorem r_if_eq {x : Int32} {off : Int} {tgt : Nat} (hd : decode Y.2.1 pc = .ok (.ifCond .eq off, 3)) (ht : (pc : Int) + off = (tgt : Int))
    (kt : x = 0 → WW Y d mc ms R kc ks tgt lv st n im rm) (kf : ¬ x = 0 → WW Y d mc ms R kc ks (pc + 3) lv st n im rm) : WW Y d mc ms R kc ks pc lv (.int x :: st) n im rm :=
  fun p l e s m args below meth c D ca b H locs ls C hl hP hF hL => lv_if_eq C.1 C.2.1 hd ht (fun q => kt q p l e s m args below meth c D ca b H locs ls C hl hP hF hL) (fun q => kf q p l e s m args below meth c D ca b H locs ls C hl hP hF hL)
theorem r_icmp_eq {x y : Int32} {off : Int} {tgt : Nat} (hd : decode Y.2.1 pc = .ok (.if_icmp .eq off, 3)) (ht : (pc : Int) + off = (tgt : Int))
    (kt : x = y → WW Y d mc ms R kc ks tgt lv st n im rm) (kf : ¬ x = y → WW Y d mc ms R kc ks (pc + 3) lv st n im rm) : WW Y d mc ms R kc ks pc lv (.int y :: .int x :: st) n im rm :=
  fun p l e s m args below meth c D ca b H locs ls C hl hP hF hL => lv_icmp_eq C.1 C.2.1 hd ht (fun q => kt q p l e s m args below meth c D ca b H locs ls C hl hP hF hL) (fun q => kf q p l e s m args below meth c D ca b H locs ls C hl hP hF hL)
theorem r_if_ne {x : Int32} {off : Int} {tgt : Nat} (hd : decode Y.2.1 pc = .ok (.ifCond .ne off, 3)) (ht : (pc : Int) + off = (tgt : Int))
    (kt : ¬ x = 0 → WW Y d mc ms R kc ks tgt lv st n im rm) (kf : x = 0 → WW Y d mc ms R kc ks (pc + 3) lv st n im rm) : WW Y d mc ms R kc ks pc lv (.int x :: st) n im rm :=
  fun p l e s m args below meth c D ca b H locs ls C hl hP hF hL => lv_if_ne C.1 C.2.1 hd ht (fun q => kt q p l e s m args below meth c D ca b H locs ls C hl hP hF hL) (fun q => kf q p l e s m args below meth c D ca b H locs ls C hl hP hF hL)
theorem r_icmp_ne {x y : Int32} {off : Int} {tgt : Nat} (hd : decode Y.2.1 pc = .ok (.if_icmp .ne off, 3)) (ht : (pc : Int) + off = (tgt : Int))
    (kt : ¬ x = y → WW Y d mc ms R kc ks tgt lv st n im rm) (kf : x = y → WW Y d mc ms R kc ks (pc + 3) lv st n im rm) : WW Y d mc ms R kc ks pc lv (.int y :: .int x :: st) n im rm :=
  fun p l e s m args below meth c D ca b H locs ls C hl hP hF hL => lv_icmp_ne C.1 C.2.1 hd ht (fun q => kt q p l e s m args below meth c D ca b H locs ls C hl hP hF hL) (fun q => kf q p l e s m args below meth c D ca b H locs ls C hl hP hF hL)
theorem r_if_lt {x : Int32} {off : Int} {tgt : Nat} (hd : decode Y.2.1 pc = .ok (.ifCond .lt off, 3)) (ht : (pc : Int) + off = (tgt : Int))
    (kt : x < 0 → WW Y d mc ms R kc ks tgt lv st n im rm) (kf : ¬ x < 0 → WW Y d mc ms R kc ks (pc + 3) lv st n im rm) : WW Y d mc ms R kc ks pc lv (.int x :: st) n im rm :=
  fun p l e s m args below meth c D ca b H locs ls C hl hP hF hL => lv_if_lt C.1 C.2.1 hd ht (fun q => kt q p l e s m args below meth c D ca b H locs ls C hl hP hF hL) (fun q => kf q p l e s m args below meth c D ca b H locs ls C hl hP hF hL)
theorem r_icmp_lt {x y : Int32} {off : Int} {tgt : Nat} (hd : decode Y.2.1 pc = .ok (.if_icmp .lt off, 3)) (ht : (pc : Int) + off = (tgt : Int))
    (kt : x < y → WW Y d mc ms R kc ks tgt lv st n im rm) (kf : ¬ x < y → WW Y d mc ms R kc ks (pc + 3) lv st n im rm) : WW Y d mc ms R kc ks pc lv (.int y :: .int x :: st) n im rm :=
  fun p l e s m args below meth c D ca b H locs ls C hl hP hF hL => lv_icmp_lt C.1 C.2.1 hd ht (fun q => kt q p l e s m args below meth c D ca b H locs ls C hl hP hF hL) (fun q => kf q p l e s m args below meth c D ca b H locs ls C hl hP hF hL)
theorem r_if_ge {x : Int32} {off : Int} {tgt : Nat} (hd : decode Y.2.1 pc = .ok (.ifCond .ge off, 3)) (ht : (pc : Int) + off = (tgt : Int))
    (kt : 0 ≤ x → WW Y d mc ms R kc ks tgt lv st n im rm) (kf : ¬ 0 ≤ x → WW Y d mc ms R kc ks (pc + 3) lv st n im rm) : WW Y d mc ms R kc ks pc lv (.int x :: st) n im rm :=
  fun p l e s m args below meth c D ca b H locs ls C hl hP hF hL => lv_if_ge C.1 C.2.1 hd ht (fun q => kt q p l e s m args below meth c D ca b H locs ls C hl hP hF hL) (fun q => kf q p l e s m args below meth c D ca b H locs ls C hl hP hF hL)
theorem r_icmp_ge {x y : Int32} {off : Int} {tgt : Nat} (hd : decode Y.2.1 pc = .ok (.if_icmp .ge off, 3)) (ht : (pc : Int) + off = (tgt : Int))
    (kt : y ≤ x → WW Y d mc ms R kc ks tgt lv st n im rm) (kf : ¬ y ≤ x → WW Y d mc ms R kc ks (pc + 3) lv st n im rm) : WW Y d mc ms R kc ks pc lv (.int y :: .int x :: st) n im rm :=
  fun p l e s m args below meth c D ca b H locs ls C hl hP hF hL => lv_icmp_ge C.1 C.2.1 hd ht (fun q => kt q p l e s m args below meth c D ca b H locs ls C hl hP hF hL) (fun q => kf q p l e s m args below meth c D ca b H locs ls C hl hP hF hL)
theorem r_if_gt {x : Int32} {off : Int} {tgt : Nat} (hd : decode Y.2.1 pc = .ok (.ifCond .gt off, 3)) (ht : (pc : Int) + off = (tgt : Int))
    (kt : 0 < x → WW Y d mc ms R kc ks tgt lv st n im rm) (kf : ¬ 0 < x → WW Y d mc ms R kc ks (pc + 3) lv st n im rm) : WW Y d mc ms R kc ks pc lv (.int x :: st) n im rm :=
  fun p l e s m args below meth c D ca b H locs ls C hl hP hF hL => lv_if_gt C.1 C.2.1 hd ht (fun q => kt q p l e s m args below meth c D ca b H locs ls C hl hP hF hL) (fun q => kf q p l e s m args below meth c D ca b H locs ls C hl hP hF hL)
theorem r_icmp_gt {x y : Int32} {off : Int} {tgt : Nat} (hd : decode Y.2.1 pc = .ok (.if_icmp .gt off, 3)) (ht : (pc : Int) + off = (tgt : Int))
    (kt : y < x → WW Y d mc ms R kc ks tgt lv st n im rm) (kf : ¬ y < x → WW Y d mc ms R kc ks (pc + 3) lv st n im rm) : WW Y d mc ms R kc ks pc lv (.int y :: .int x :: st) n im rm :=
  fun p l e s m args below meth c D ca b H locs ls C hl hP hF hL => lv_icmp_gt C.1 C.2.1 hd ht (fun q => kt q p l e s m args below meth c D ca b H locs ls C hl hP hF hL) (fun q => kf q p l e s m args below meth c D ca b H locs ls C hl hP hF hL)
theorem r_if_le {x : Int32} {off : Int} {tgt : Nat} (hd : decode Y.2.1 pc = .ok (.ifCond .le off, 3)) (ht : (pc : Int) + off = (tgt : Int))
    (kt : x ≤ 0 → WW Y d mc ms R kc ks tgt lv st n im rm) (kf : ¬ x ≤ 0 → WW Y d mc ms R kc ks (pc + 3) lv st n im rm) : WW Y d mc ms R kc ks pc lv (.int x :: st) n im rm :=
  fun p l e s m args below meth c D ca b H locs ls C hl hP hF hL => lv_if_le C.1 C.2.1 hd ht (fun q => kt q p l e s m args below meth c D ca b H locs ls C hl hP hF hL) (fun q => kf q p l e s m args below meth c D ca b H locs ls C hl hP hF hL)
theorem r_icmp_le {x y : Int32} {off : Int} {tgt : Nat} (hd : decode Y.2.1 pc = .ok (.if_icmp .le off, 3)) (ht : (pc : Int) + off = (tgt : Int))
    (kt : x ≤ y → WW Y d mc ms R kc ks tgt lv st n im rm) (kf : ¬ x ≤ y → WW Y d mc ms R kc ks (pc + 3) lv st n im rm) : WW Y d mc ms R kc ks pc lv (.int y :: .int x :: st) n im rm :=
  fun p l e s m args below meth c D ca b H locs ls C hl hP hF hL => lv_icmp_le C.1 C.2.1 hd ht (fun q => kt q p l e s m args below meth c D ca b H locs ls C hl hP hF hL) (fun q => kf q p l e s m args below meth c D ca b H locs ls C hl hP hF hL)
theorem r_tabOut {dflt lo hi : Int} {offs : Array Int} {len : Nat} {x : Int32} {tgt : Nat} (hd : decode Y.2.1 pc = .ok (.tableswitch dflt lo hi offs, len)) (h : x.toInt < lo ∨ hi < x.toInt) (ht : (pc : Int) + dflt = (tgt : Int))
    (k : WW Y d mc ms R kc ks tgt lv st n im rm) : WW Y d mc ms R kc ks pc lv (.int x :: st) n im rm :=
  fun p l e s m args below meth c D ca b H locs ls C hl hP hF hL => lv_tableOut C.1 C.2.1 hd h ht (k p l e s m args below meth c D ca b H locs ls C hl hP hF hL)
theorem r_tabIn {dflt lo hi : Int} {offs : Array Int} {len : Nat} {x : Int32} {off : Int} {tgt : Nat} (hd : decode Y.2.1 pc = .ok (.tableswitch dflt lo hi offs, len)) (h1 : ¬ x.toInt < lo) (h2 : ¬ hi < x.toInt) (ho : offs[(x.toInt - lo).toNat]? = some off) (ht : (pc : Int) + off = (tgt : Int))
    (k : WW Y d mc ms R kc ks tgt lv st n im rm) : WW Y d mc ms R kc ks pc lv (.int x :: st) n im rm :=
  fun p l e s m args below meth c D ca b H locs ls C hl hP hF hL => lv_tableIn C.1 C.2.1 hd h1 h2 ho ht (k p l e s m args below meth c D ca b H locs ls C hl hP hF hL)
theorem one_cat {b : Nat} {v : Value} (h : v.category = 1) : (tv b v).category = 1 := (tv_cat b v).trans h
theorem r_dup {v : Value} (hd : decode Y.2.1 pc = .ok (.dup, 1)) (h : v.category = 1) (k : WW Y d mc ms R kc ks (pc + 1) lv (v :: v :: st) n im rm) : WW Y d mc ms R kc ks pc lv (v :: st) n im rm :=
  fun p l e s m args below meth c D ca b H locs ls C hl hP hF hL => lv_dup C.1 C.2.1 hd (one_cat h) (k p l e s m args below meth c D ca b H locs ls C hl hP hF hL)
theorem r_dup2 {v u : Value} (hd : decode Y.2.1 pc = .ok (.dup2, 1)) (h : v.category = 1) (h2 : u.category = 1) (k : WW Y d mc ms R kc ks (pc + 1) lv (v :: u :: v :: u :: st) n im rm) : WW Y d mc ms R kc ks pc lv (v :: u :: st) n im rm :=
  fun p l e s m args below meth c D ca b H locs ls C hl hP hF hL => lv_dup2_11 C.1 C.2.1 hd (one_cat h) (one_cat h2) (k p l e s m args below meth c D ca b H locs ls C hl hP hF hL)
theorem r_iret {v : Int32} (hd : decode Y.2.1 pc = .ok (.ireturn, 1)) (hr : Y.2.2.2 = some .int) (hR : R = (some (.int v), n, im, rm)) (hc : kc ≤ mc) (hs : ks ≤ ms) : WW Y d mc ms R kc ks pc lv [.int v] n im rm := by
  intro p l e s m args below meth c D ca b H locs ls C hl hP hF hL
  subst hR
  have hlocks : meth.locks = false := C.2.2.2.2.2.2.1
  exact W.widen hc hs (W.iret (v := v) C.1 C.2.1 (C.2.2.1.trans hr) (fun t ht _ => ⟨rfl, by rw [ht]; exact hP, by rw [ht]; exact hF⟩) hL hd)
theorem r_zret {v : Int32} (hd : decode Y.2.1 pc = .ok (.ireturn, 1)) (hr : Y.2.2.2 = some .boolean) (hv : narrow .boolean (.int v) = .int v) (hR : R = (some (.int v), n, im, rm)) (hc : kc ≤ mc) (hs : ks ≤ ms) : WW Y d mc ms R kc ks pc lv [.int v] n im rm := by
  intro p l e s m args below meth c D ca b H locs ls C hl hP hF hL
  subst hR
  have hlocks : meth.locks = false := C.2.2.2.2.2.2.1
  exact W.widen hc hs (W.zret (v := v) C.1 C.2.1 (C.2.2.1.trans hr) hv (fun t ht _ => ⟨rfl, by rw [ht]; exact hP, by rw [ht]; exact hF⟩) hL hd)
theorem r_vret (hd : decode Y.2.1 pc = .ok (.return_, 1)) (hr : Y.2.2.2 = none) (hR : R = (none, n, im, rm)) (hc : kc ≤ mc) (hs : ks ≤ ms) : WW Y d mc ms R kc ks pc lv [] n im rm := by
  intro p l e s m args below meth c D ca b H locs ls C hl hP hF hL
  subst hR
  have hlocks : meth.locks = false := C.2.2.2.2.2.2.1
  exact W.widen hc hs (W.vret C.1 C.2.1 (C.2.2.1.trans hr) (fun t ht _ => ⟨rfl, by rw [ht]; exact hP, by rw [ht]; exact hF⟩) hL hd)
theorem r_aret {v : Nat} {cn : String} (hd : decode Y.2.1 pc = .ok (.areturn, 1)) (hr : Y.2.2.2 = some (.object cn)) (hR : R = (some (.ref v), n, im, rm)) (hc : kc ≤ mc) (hs : ks ≤ ms) : WW Y d mc ms R kc ks pc lv [.ref v] n im rm := by
  intro p l e s m args below meth c D ca b H locs ls C hl hP hF hL
  subst hR
  have hlocks : meth.locks = false := C.2.2.2.2.2.2.1
  exact W.widen hc hs (W.aret (v := .ref (b + v)) C.1 C.2.1 (C.2.2.1.trans hr) (Or.inl ⟨cn, rfl⟩) (Or.inr ⟨_, rfl⟩) (fun t ht _ => ⟨rfl, by rw [ht]; exact hP, by rw [ht]; exact hF⟩) hL hd)
theorem r_eq {st' : List Value} {lv' : LV} {im' : IM} (h1 : lv = lv') (h2 : st = st') (h3 : im = im') (k : WW Y d mc ms R kc ks pc lv' st' n im' rm) : WW Y d mc ms R kc ks pc lv st n im rm := by
  subst h1; subst h2; subst h3; exact k
theorem r_sub {lv' : LV} (h : ∀ q ∈ lv', q ∈ lv) (k : WW Y d mc ms R kc ks pc lv' st n im rm) : WW Y d mc ms R kc ks pc lv st n im rm := by
  intro p l e s m args below meth c D ca b H locs ls C hl hP hF hL
  refine k p l e s m args below meth c D ca b H locs ls C ⟨hl.1, hl.2.1, fun q hq => ?_⟩ hP hF hL
  obtain ⟨a, ha, rfl⟩ := List.mem_map.mp hq
  exact hl.2.2 _ (List.mem_map.mpr ⟨a, h a ha, rfl⟩)
end RULES
