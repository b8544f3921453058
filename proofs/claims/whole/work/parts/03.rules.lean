theorem wp_iadd {G : kG} {d : Nat} {mt : kMt} {E : kEv} {pc : Nat} {ls st : List Value} {h : kM} {x y : Int32} (pc' : Nat) (hd : decode mt.2.1 pc = .ok (.iadd, 1)) (hp : pc + 1 = pc') (k : Wp G d mt E pc' ls (.int (x + y) :: st) h) : Wp G d mt E pc ls (.int y :: .int x :: st) h := by
  subst hp
  intro hO p e s m args below meth c H locs lsC X hP hS hl
  exact lv_iadd X.1 X.2.1 hd (k hO p e s m args below meth c H locs lsC X hP hS hl)
theorem wp_isub {G : kG} {d : Nat} {mt : kMt} {E : kEv} {pc : Nat} {ls st : List Value} {h : kM} {x y : Int32} (pc' : Nat) (hd : decode mt.2.1 pc = .ok (.isub, 1)) (hp : pc + 1 = pc') (k : Wp G d mt E pc' ls (.int (x - y) :: st) h) : Wp G d mt E pc ls (.int y :: .int x :: st) h := by
  subst hp
  intro hO p e s m args below meth c H locs lsC X hP hS hl
  exact lv_isub X.1 X.2.1 hd (k hO p e s m args below meth c H locs lsC X hP hS hl)
theorem wp_imul {G : kG} {d : Nat} {mt : kMt} {E : kEv} {pc : Nat} {ls st : List Value} {h : kM} {x y : Int32} (pc' : Nat) (hd : decode mt.2.1 pc = .ok (.imul, 1)) (hp : pc + 1 = pc') (k : Wp G d mt E pc' ls (.int (x * y) :: st) h) : Wp G d mt E pc ls (.int y :: .int x :: st) h := by
  subst hp
  intro hO p e s m args below meth c H locs lsC X hP hS hl
  exact lv_imul X.1 X.2.1 hd (k hO p e s m args below meth c H locs lsC X hP hS hl)
theorem wp_iand {G : kG} {d : Nat} {mt : kMt} {E : kEv} {pc : Nat} {ls st : List Value} {h : kM} {x y : Int32} (pc' : Nat) (hd : decode mt.2.1 pc = .ok (.iand, 1)) (hp : pc + 1 = pc') (k : Wp G d mt E pc' ls (.int (x &&& y) :: st) h) : Wp G d mt E pc ls (.int y :: .int x :: st) h := by
  subst hp
  intro hO p e s m args below meth c H locs lsC X hP hS hl
  exact lv_iand X.1 X.2.1 hd (k hO p e s m args below meth c H locs lsC X hP hS hl)
theorem wp_ior {G : kG} {d : Nat} {mt : kMt} {E : kEv} {pc : Nat} {ls st : List Value} {h : kM} {x y : Int32} (pc' : Nat) (hd : decode mt.2.1 pc = .ok (.ior, 1)) (hp : pc + 1 = pc') (k : Wp G d mt E pc' ls (.int (x ||| y) :: st) h) : Wp G d mt E pc ls (.int y :: .int x :: st) h := by
  subst hp
  intro hO p e s m args below meth c H locs lsC X hP hS hl
  exact lv_ior X.1 X.2.1 hd (k hO p e s m args below meth c H locs lsC X hP hS hl)
theorem wp_ixor {G : kG} {d : Nat} {mt : kMt} {E : kEv} {pc : Nat} {ls st : List Value} {h : kM} {x y : Int32} (pc' : Nat) (hd : decode mt.2.1 pc = .ok (.ixor, 1)) (hp : pc + 1 = pc') (k : Wp G d mt E pc' ls (.int (x ^^^ y) :: st) h) : Wp G d mt E pc ls (.int y :: .int x :: st) h := by
  subst hp
  intro hO p e s m args below meth c H locs lsC X hP hS hl
  exact lv_ixor X.1 X.2.1 hd (k hO p e s m args below meth c H locs lsC X hP hS hl)
theorem wp_ishl {G : kG} {d : Nat} {mt : kMt} {E : kEv} {pc : Nat} {ls st : List Value} {h : kM} {x y : Int32} (pc' : Nat) (hd : decode mt.2.1 pc = .ok (.ishl, 1)) (hp : pc + 1 = pc') (k : Wp G d mt E pc' ls (.int (x <<< (y &&& 31)) :: st) h) : Wp G d mt E pc ls (.int y :: .int x :: st) h := by
  subst hp
  intro hO p e s m args below meth c H locs lsC X hP hS hl
  exact lv_ishl X.1 X.2.1 hd (k hO p e s m args below meth c H locs lsC X hP hS hl)
theorem wp_ishr {G : kG} {d : Nat} {mt : kMt} {E : kEv} {pc : Nat} {ls st : List Value} {h : kM} {x y : Int32} (pc' : Nat) (hd : decode mt.2.1 pc = .ok (.ishr, 1)) (hp : pc + 1 = pc') (k : Wp G d mt E pc' ls (.int (x >>> (y &&& 31)) :: st) h) : Wp G d mt E pc ls (.int y :: .int x :: st) h := by
  subst hp
  intro hO p e s m args below meth c H locs lsC X hP hS hl
  exact lv_ishr X.1 X.2.1 hd (k hO p e s m args below meth c H locs lsC X hP hS hl)
theorem wp_iushr {G : kG} {d : Nat} {mt : kMt} {E : kEv} {pc : Nat} {ls st : List Value} {h : kM} {x y : Int32} (pc' : Nat) (hd : decode mt.2.1 pc = .ok (.iushr, 1)) (hp : pc + 1 = pc') (k : Wp G d mt E pc' ls (.int ((x.toUInt32 >>> (y.toUInt32 &&& Int32.toUInt32 31)).toInt32) :: st) h) : Wp G d mt E pc ls (.int y :: .int x :: st) h := by
  subst hp
  intro hO p e s m args below meth c H locs lsC X hP hS hl
  exact lv_iushr X.1 X.2.1 hd rfl (k hO p e s m args below meth c H locs lsC X hP hS hl)
theorem wp_idiv {G : kG} {d : Nat} {mt : kMt} {E : kEv} {pc : Nat} {ls st : List Value} {h : kM} {x y : Int32} (pc' : Nat) (hd : decode mt.2.1 pc = .ok (.idiv, 1)) (hne : ¬ y = 0) (hp : pc + 1 = pc') (k : Wp G d mt E pc' ls (.int (x / y) :: st) h) : Wp G d mt E pc ls (.int y :: .int x :: st) h := by
  subst hp
  intro hO p e s m args below meth c H locs lsC X hP hS hl
  exact lv_idiv X.1 X.2.1 hd hne (k hO p e s m args below meth c H locs lsC X hP hS hl)
theorem wp_irem {G : kG} {d : Nat} {mt : kMt} {E : kEv} {pc : Nat} {ls st : List Value} {h : kM} {x y : Int32} (pc' : Nat) (hd : decode mt.2.1 pc = .ok (.irem, 1)) (hne : ¬ y = 0) (hp : pc + 1 = pc') (k : Wp G d mt E pc' ls (.int (x - x / y * y) :: st) h) : Wp G d mt E pc ls (.int y :: .int x :: st) h := by
  subst hp
  intro hO p e s m args below meth c H locs lsC X hP hS hl
  exact lv_irem X.1 X.2.1 hd hne (k hO p e s m args below meth c H locs lsC X hP hS hl)
theorem wp_ineg {G : kG} {d : Nat} {mt : kMt} {E : kEv} {pc : Nat} {ls st : List Value} {h : kM} {x : Int32} (pc' : Nat) (hd : decode mt.2.1 pc = .ok (.ineg, 1)) (hp : pc + 1 = pc') (k : Wp G d mt E pc' ls (.int (-x) :: st) h) : Wp G d mt E pc ls (.int x :: st) h := by
  subst hp
  intro hO p e s m args below meth c H locs lsC X hP hS hl
  exact lv_ineg X.1 X.2.1 hd (k hO p e s m args below meth c H locs lsC X hP hS hl)
theorem wp_i2c {G : kG} {d : Nat} {mt : kMt} {E : kEv} {pc : Nat} {ls st : List Value} {h : kM} {x : Int32} (pc' : Nat) (hd : decode mt.2.1 pc = .ok (.i2c, 1)) (hp : pc + 1 = pc') (k : Wp G d mt E pc' ls (.int ((x.toUInt32 % 65536).toInt32) :: st) h) : Wp G d mt E pc ls (.int x :: st) h := by
  subst hp
  intro hO p e s m args below meth c H locs lsC X hP hS hl
  exact lv_i2c X.1 X.2.1 hd rfl (k hO p e s m args below meth c H locs lsC X hP hS hl)
theorem wp_i2l {G : kG} {d : Nat} {mt : kMt} {E : kEv} {pc : Nat} {ls st : List Value} {h : kM} {x : Int32} (pc' : Nat) (hd : decode mt.2.1 pc = .ok (.i2l, 1)) (hp : pc + 1 = pc') (k : Wp G d mt E pc' ls (.long x.toInt64 :: st) h) : Wp G d mt E pc ls (.int x :: st) h := by
  subst hp
  intro hO p e s m args below meth c H locs lsC X hP hS hl
  exact lv_i2l X.1 X.2.1 hd rfl (k hO p e s m args below meth c H locs lsC X hP hS hl)
theorem wp_l2i {G : kG} {d : Nat} {mt : kMt} {E : kEv} {pc : Nat} {ls st : List Value} {h : kM} {x : Int64} (pc' : Nat) (hd : decode mt.2.1 pc = .ok (.l2i, 1)) (hp : pc + 1 = pc') (k : Wp G d mt E pc' ls (.int x.toInt32 :: st) h) : Wp G d mt E pc ls (.long x :: st) h := by
  subst hp
  intro hO p e s m args below meth c H locs lsC X hP hS hl
  exact lv_l2i X.1 X.2.1 hd rfl (k hO p e s m args below meth c H locs lsC X hP hS hl)
theorem wp_land {G : kG} {d : Nat} {mt : kMt} {E : kEv} {pc : Nat} {ls st : List Value} {h : kM} {x y : Int64} (pc' : Nat) (hd : decode mt.2.1 pc = .ok (.land, 1)) (hp : pc + 1 = pc') (k : Wp G d mt E pc' ls (.long (x &&& y) :: st) h) : Wp G d mt E pc ls (.long y :: .long x :: st) h := by
  subst hp
  intro hO p e s m args below meth c H locs lsC X hP hS hl
  exact lv_land X.1 X.2.1 hd (k hO p e s m args below meth c H locs lsC X hP hS hl)
theorem wp_lor {G : kG} {d : Nat} {mt : kMt} {E : kEv} {pc : Nat} {ls st : List Value} {h : kM} {x y : Int64} (pc' : Nat) (hd : decode mt.2.1 pc = .ok (.lor, 1)) (hp : pc + 1 = pc') (k : Wp G d mt E pc' ls (.long (x ||| y) :: st) h) : Wp G d mt E pc ls (.long y :: .long x :: st) h := by
  subst hp
  intro hO p e s m args below meth c H locs lsC X hP hS hl
  exact lv_lor X.1 X.2.1 hd (k hO p e s m args below meth c H locs lsC X hP hS hl)
theorem wp_lushr {G : kG} {d : Nat} {mt : kMt} {E : kEv} {pc : Nat} {ls st : List Value} {h : kM} {x : Int64} {y : Int32} (pc' : Nat) (hd : decode mt.2.1 pc = .ok (.lushr, 1)) (hp : pc + 1 = pc') (k : Wp G d mt E pc' ls (.long ((x.toUInt64 >>> (y.toInt64.toUInt64 &&& Int64.toUInt64 63)).toInt64) :: st) h) : Wp G d mt E pc ls (.int y :: .long x :: st) h := by
  subst hp
  intro hO p e s m args below meth c H locs lsC X hP hS hl
  exact lv_lushr X.1 X.2.1 hd rfl (k hO p e s m args below meth c H locs lsC X hP hS hl)
theorem wp_lshl {G : kG} {d : Nat} {mt : kMt} {E : kEv} {pc : Nat} {ls st : List Value} {h : kM} {x : Int64} {y : Int32} (pc' : Nat) (hd : decode mt.2.1 pc = .ok (.lshl, 1)) (hp : pc + 1 = pc') (k : Wp G d mt E pc' ls (.long (x <<< (y.toInt64 &&& 63)) :: st) h) : Wp G d mt E pc ls (.int y :: .long x :: st) h := by
  subst hp
  intro hO p e s m args below meth c H locs lsC X hP hS hl
  exact lv_lshl X.1 X.2.1 hd rfl (k hO p e s m args below meth c H locs lsC X hP hS hl)
theorem wp_lshr {G : kG} {d : Nat} {mt : kMt} {E : kEv} {pc : Nat} {ls st : List Value} {h : kM} {x : Int64} {y : Int32} (pc' : Nat) (hd : decode mt.2.1 pc = .ok (.lshr, 1)) (hp : pc + 1 = pc') (k : Wp G d mt E pc' ls (.long (x >>> (y.toInt64 &&& 63)) :: st) h) : Wp G d mt E pc ls (.int y :: .long x :: st) h := by
  subst hp
  intro hO p e s m args below meth c H locs lsC X hP hS hl
  exact lv_lshr X.1 X.2.1 hd rfl (k hO p e s m args below meth c H locs lsC X hP hS hl)
theorem wp_iconst {G : kG} {d : Nat} {mt : kMt} {E : kEv} {pc : Nat} {ls st : List Value} {h : kM} {n : Int} (v : Int32) (pc' : Nat) (hd : decode mt.2.1 pc = .ok (.iconst n, 1)) (hv : Int32.ofInt n = v) (hp : pc + 1 = pc') (k : Wp G d mt E pc' ls (.int v :: st) h) : Wp G d mt E pc ls st h := by
  subst hp
  intro hO p e s m args below meth c H locs lsC X hP hS hl
  exact lv_iconst X.1 X.2.1 hd hv (k hO p e s m args below meth c H locs lsC X hP hS hl)
theorem wp_bipush {G : kG} {d : Nat} {mt : kMt} {E : kEv} {pc : Nat} {ls st : List Value} {h : kM} {n : Int} (v : Int32) (pc' : Nat) (hd : decode mt.2.1 pc = .ok (.bipush n, 2)) (hv : (Int8.ofInt n).toInt32 = v) (hp : pc + 2 = pc') (k : Wp G d mt E pc' ls (.int v :: st) h) : Wp G d mt E pc ls st h := by
  subst hp
  intro hO p e s m args below meth c H locs lsC X hP hS hl
  exact lv_bipush X.1 X.2.1 hd hv (k hO p e s m args below meth c H locs lsC X hP hS hl)
theorem wp_sipush {G : kG} {d : Nat} {mt : kMt} {E : kEv} {pc : Nat} {ls st : List Value} {h : kM} {n : Int} (v : Int32) (pc' : Nat) (hd : decode mt.2.1 pc = .ok (.sipush n, 3)) (hv : (Int16.ofInt n).toInt32 = v) (hp : pc + 3 = pc') (k : Wp G d mt E pc' ls (.int v :: st) h) : Wp G d mt E pc ls st h := by
  subst hp
  intro hO p e s m args below meth c H locs lsC X hP hS hl
  exact lv_sipush X.1 X.2.1 hd hv (k hO p e s m args below meth c H locs lsC X hP hS hl)
theorem wp_ldc {G : kG} {d : Nat} {mt : kMt} {E : kEv} {pc : Nat} {ls st : List Value} {h : kM} {i : Nat} (v : Int32) (pc' : Nat) (hd : decode mt.2.1 pc = .ok (.ldc i, 2)) (hw : Cond.constant mt.1.cls i v ∈ TW) (hp : pc + 2 = pc') (k : Wp G d mt E pc' ls (.int v :: st) h) : Wp G d mt E pc ls st h := by
  subst hp
  intro hO p e s m args below meth c H locs lsC X hP hS hl
  exact lv_ldc X.1 X.2.1 X.2.2.2.1 (X.2.2.2.2.1 _ (List.mem_cons_of_mem _ hw)) hd (k hO p e s m args below meth c H locs lsC X hP hS hl)
theorem wp_ldcw {G : kG} {d : Nat} {mt : kMt} {E : kEv} {pc : Nat} {ls st : List Value} {h : kM} {i : Nat} (v : Int32) (pc' : Nat) (hd : decode mt.2.1 pc = .ok (.ldc_w i, 3)) (hw : Cond.constant mt.1.cls i v ∈ TW) (hp : pc + 3 = pc') (k : Wp G d mt E pc' ls (.int v :: st) h) : Wp G d mt E pc ls st h := by
  subst hp
  intro hO p e s m args below meth c H locs lsC X hP hS hl
  exact lv_ldcw X.1 X.2.1 X.2.2.2.1 (X.2.2.2.2.1 _ (List.mem_cons_of_mem _ hw)) hd (k hO p e s m args below meth c H locs lsC X hP hS hl)
theorem wp_ldc2 {G : kG} {d : Nat} {mt : kMt} {E : kEv} {pc : Nat} {ls st : List Value} {h : kM} {i : Nat} (v : Int64) (pc' : Nat) (hd : decode mt.2.1 pc = .ok (.ldc2_w i, 3)) (hw : Cond.constantLong mt.1.cls i v ∈ TW) (hp : pc + 3 = pc') (k : Wp G d mt E pc' ls (.long v :: st) h) : Wp G d mt E pc ls st h := by
  subst hp
  intro hO p e s m args below meth c H locs lsC X hP hS hl
  exact lv_ldc2 X.1 X.2.1 X.2.2.2.1 (X.2.2.2.2.1 _ (List.mem_cons_of_mem _ hw)) hd (k hO p e s m args below meth c H locs lsC X hP hS hl)
theorem wp_iload_n {G : kG} {d : Nat} {mt : kMt} {E : kEv} {pc : Nat} {ls st : List Value} {h : kM} {q : Fin 4} {x : Int32} (pc' : Nat) (hd : decode mt.2.1 pc = .ok (.iload_n q, 1)) (hv : ls[(q : Nat)]? = some (.int x)) (hp : pc + 1 = pc') (k : Wp G d mt E pc' ls (.int x :: st) h) : Wp G d mt E pc ls st h := by
  subst hp
  intro hO p e s m args below meth c H locs lsC X hP hS hl
  exact lv_iload_n X.1 X.2.1 hd rfl (by have h1 := kl_get hl hv (by simp); exact h1) (k hO p e s m args below meth c H locs lsC X hP hS hl)
theorem wp_iload {G : kG} {d : Nat} {mt : kMt} {E : kEv} {pc : Nat} {ls st : List Value} {h : kM} {i : Nat} {x : Int32} (pc' : Nat) (hd : decode mt.2.1 pc = .ok (.iload i, 2)) (hv : ls[i]? = some (.int x)) (hp : pc + 2 = pc') (k : Wp G d mt E pc' ls (.int x :: st) h) : Wp G d mt E pc ls st h := by
  subst hp
  intro hO p e s m args below meth c H locs lsC X hP hS hl
  exact lv_iload X.1 X.2.1 hd (by have h1 := kl_get hl hv (by simp); exact h1) (k hO p e s m args below meth c H locs lsC X hP hS hl)
theorem wp_aload_n {G : kG} {d : Nat} {mt : kMt} {E : kEv} {pc : Nat} {ls st : List Value} {h : kM} {q : Fin 4} {x : Nat} (pc' : Nat) (hd : decode mt.2.1 pc = .ok (.aload_n q, 1)) (hv : ls[(q : Nat)]? = some (.ref x)) (hp : pc + 1 = pc') (k : Wp G d mt E pc' ls (.ref x :: st) h) : Wp G d mt E pc ls st h := by
  subst hp
  intro hO p e s m args below meth c H locs lsC X hP hS hl
  exact lv_aload_n X.1 X.2.1 hd rfl (by have h1 := kl_get hl hv (by simp); exact h1) (k hO p e s m args below meth c H locs lsC X hP hS hl)
theorem wp_aload {G : kG} {d : Nat} {mt : kMt} {E : kEv} {pc : Nat} {ls st : List Value} {h : kM} {i : Nat} {x : Nat} (pc' : Nat) (hd : decode mt.2.1 pc = .ok (.aload i, 2)) (hv : ls[i]? = some (.ref x)) (hp : pc + 2 = pc') (k : Wp G d mt E pc' ls (.ref x :: st) h) : Wp G d mt E pc ls st h := by
  subst hp
  intro hO p e s m args below meth c H locs lsC X hP hS hl
  exact lv_aload X.1 X.2.1 hd (by have h1 := kl_get hl hv (by simp); exact h1) (k hO p e s m args below meth c H locs lsC X hP hS hl)
theorem wp_lload_n {G : kG} {d : Nat} {mt : kMt} {E : kEv} {pc : Nat} {ls st : List Value} {h : kM} {q : Fin 4} {x : Int64} (pc' : Nat) (hd : decode mt.2.1 pc = .ok (.lload_n q, 1)) (hv : ls[(q : Nat)]? = some (.long x)) (hp : pc + 1 = pc') (k : Wp G d mt E pc' ls (.long x :: st) h) : Wp G d mt E pc ls st h := by
  subst hp
  intro hO p e s m args below meth c H locs lsC X hP hS hl
  exact lv_lload_n X.1 X.2.1 hd rfl (by have h1 := kl_get hl hv (by simp); exact h1) (k hO p e s m args below meth c H locs lsC X hP hS hl)
theorem wp_istore_n {G : kG} {d : Nat} {mt : kMt} {E : kEv} {pc : Nat} {ls st : List Value} {h : kM} {q : Fin 4} {x : Int32} (pc' : Nat) (hd : decode mt.2.1 pc = .ok (.istore_n q, 1)) (hp : pc + 1 = pc') (hn : (q : Nat) < mt.2.2.1) (hN : kNL ls q = true) (k : Wp G d mt E pc' (ls.set q (.int x)) st h) : Wp G d mt E pc ls (.int x :: st) h := by
  subst hp
  intro hO p e s m args below meth c H locs lsC X hP hS hl
  exact lv_istore_n (x := x) X.1 X.2.1 hd rfl hl hn rfl (fun lsN hlN => k hO p e s m args below meth c H locs lsN X hP hS (kl_store hN hlN))
theorem wp_istore {G : kG} {d : Nat} {mt : kMt} {E : kEv} {pc : Nat} {ls st : List Value} {h : kM} {i : Nat} {x : Int32} (pc' : Nat) (hd : decode mt.2.1 pc = .ok (.istore i, 2)) (hp : pc + 2 = pc') (hn : i < mt.2.2.1) (hN : kNL ls i = true) (k : Wp G d mt E pc' (ls.set i (.int x)) st h) : Wp G d mt E pc ls (.int x :: st) h := by
  subst hp
  intro hO p e s m args below meth c H locs lsC X hP hS hl
  exact lv_istore (x := x) X.1 X.2.1 hd hl hn rfl (fun lsN hlN => k hO p e s m args below meth c H locs lsN X hP hS (kl_store hN hlN))
theorem wp_astore_n {G : kG} {d : Nat} {mt : kMt} {E : kEv} {pc : Nat} {ls st : List Value} {h : kM} {q : Fin 4} {x : Nat} (pc' : Nat) (hd : decode mt.2.1 pc = .ok (.astore_n q, 1)) (hp : pc + 1 = pc') (hn : (q : Nat) < mt.2.2.1) (hN : kNL ls q = true) (k : Wp G d mt E pc' (ls.set q (.ref x)) st h) : Wp G d mt E pc ls (.ref x :: st) h := by
  subst hp
  intro hO p e s m args below meth c H locs lsC X hP hS hl
  exact lv_astore_n (x := kad G x) X.1 X.2.1 hd rfl hl hn rfl (fun lsN hlN => k hO p e s m args below meth c H locs lsN X hP hS (kl_store hN hlN))
theorem wp_astore {G : kG} {d : Nat} {mt : kMt} {E : kEv} {pc : Nat} {ls st : List Value} {h : kM} {i : Nat} {x : Nat} (pc' : Nat) (hd : decode mt.2.1 pc = .ok (.astore i, 2)) (hp : pc + 2 = pc') (hn : i < mt.2.2.1) (hN : kNL ls i = true) (k : Wp G d mt E pc' (ls.set i (.ref x)) st h) : Wp G d mt E pc ls (.ref x :: st) h := by
  subst hp
  intro hO p e s m args below meth c H locs lsC X hP hS hl
  exact lv_astore (x := kad G x) X.1 X.2.1 hd hl hn rfl (fun lsN hlN => k hO p e s m args below meth c H locs lsN X hP hS (kl_store hN hlN))
theorem wp_iinc {G : kG} {d : Nat} {mt : kMt} {E : kEv} {pc : Nat} {ls st : List Value} {h : kM} {i : Nat} {n : Int} {x : Int32} (v : Int32) (pc' : Nat) (hd : decode mt.2.1 pc = .ok (.iinc i n, 3)) (hp : pc + 3 = pc') (hv : ls[i]? = some (.int x)) (hw : Int32.ofInt n = v) (hn : i < mt.2.2.1) (hN : kNL ls i = true) (k : Wp G d mt E pc' (ls.set i (.int (x + v))) st h) : Wp G d mt E pc ls st h := by
  subst hp
  subst hw
  intro hO p e s m args below meth c H locs lsC X hP hS hl
  have h1 : (i, Value.int x) ∈ kl G 0 ls := (kl_mem _ _ _ _).mpr ⟨i, .int x, hv, by simp, by omega, rfl⟩
  obtain ⟨z, hz⟩ := List.getElem?_of_mem h1
  exact lv_iinc (k := z) X.1 X.2.1 hd hl hz rfl hn rfl (fun lsN hlN => k hO p e s m args below meth c H locs lsN X hP hS (kl_store hN hlN))
theorem wp_dup {G : kG} {d : Nat} {mt : kMt} {E : kEv} {pc : Nat} {ls st : List Value} {h : kM} {v : Value} (pc' : Nat) (hd : decode mt.2.1 pc = .ok (.dup, 1)) (hva : v.category = 1) (hp : pc + 1 = pc') (k : Wp G d mt E pc' ls (v :: v :: st) h) : Wp G d mt E pc ls (v :: st) h := by
  subst hp
  intro hO p e s m args below meth c H locs lsC X hP hS hl
  exact lv_dup X.1 X.2.1 hd (by rw [kc_cat]; exact hva) (k hO p e s m args below meth c H locs lsC X hP hS hl)
theorem wp_pop {G : kG} {d : Nat} {mt : kMt} {E : kEv} {pc : Nat} {ls st : List Value} {h : kM} {v : Value} (pc' : Nat) (hd : decode mt.2.1 pc = .ok (.pop, 1)) (hva : v.category = 1) (hp : pc + 1 = pc') (k : Wp G d mt E pc' ls (st) h) : Wp G d mt E pc ls (v :: st) h := by
  subst hp
  intro hO p e s m args below meth c H locs lsC X hP hS hl
  exact lv_pop X.1 X.2.1 hd (by rw [kc_cat]; exact hva) (k hO p e s m args below meth c H locs lsC X hP hS hl)
theorem wp_dup2 {G : kG} {d : Nat} {mt : kMt} {E : kEv} {pc : Nat} {ls st : List Value} {h : kM} {v w : Value} (pc' : Nat) (hd : decode mt.2.1 pc = .ok (.dup2, 1)) (hva : v.category = 1) (hvb : w.category = 1) (hp : pc + 1 = pc') (k : Wp G d mt E pc' ls (v :: w :: v :: w :: st) h) : Wp G d mt E pc ls (v :: w :: st) h := by
  subst hp
  intro hO p e s m args below meth c H locs lsC X hP hS hl
  exact lv_dup2_11 X.1 X.2.1 hd (by rw [kc_cat]; exact hva) (by rw [kc_cat]; exact hvb) (k hO p e s m args below meth c H locs lsC X hP hS hl)
theorem wp_if_eq {G : kG} {d : Nat} {mt : kMt} {E : kEv} {pc : Nat} {ls st : List Value} {h : kM} {x : Int32} {off : Int} (tgt pc' : Nat) (hd : decode mt.2.1 pc = .ok (.ifCond .eq off, 3)) (ht : (pc : Int) + off = (tgt : Int)) (hp : pc + 3 = pc') (k : (x = 0 → Wp G d mt E tgt ls st h) ∧ (¬ (x = 0) → Wp G d mt E pc' ls st h)) : Wp G d mt E pc ls (.int x :: st) h := by
  subst hp
  intro hO p e s m args below meth c H locs lsC X hP hS hl
  exact lv_if_eq X.1 X.2.1 hd ht (fun q => k.1 q hO p e s m args below meth c H locs lsC X hP hS hl) (fun q => k.2 q hO p e s m args below meth c H locs lsC X hP hS hl)
theorem wp_icmp_eq {G : kG} {d : Nat} {mt : kMt} {E : kEv} {pc : Nat} {ls st : List Value} {h : kM} {x y : Int32} {off : Int} (tgt pc' : Nat) (hd : decode mt.2.1 pc = .ok (.if_icmp .eq off, 3)) (ht : (pc : Int) + off = (tgt : Int)) (hp : pc + 3 = pc') (k : (x = y → Wp G d mt E tgt ls st h) ∧ (¬ (x = y) → Wp G d mt E pc' ls st h)) : Wp G d mt E pc ls (.int y :: .int x :: st) h := by
  subst hp
  intro hO p e s m args below meth c H locs lsC X hP hS hl
  exact lv_icmp_eq X.1 X.2.1 hd ht (fun q => k.1 q hO p e s m args below meth c H locs lsC X hP hS hl) (fun q => k.2 q hO p e s m args below meth c H locs lsC X hP hS hl)
theorem wp_if_ne {G : kG} {d : Nat} {mt : kMt} {E : kEv} {pc : Nat} {ls st : List Value} {h : kM} {x : Int32} {off : Int} (tgt pc' : Nat) (hd : decode mt.2.1 pc = .ok (.ifCond .ne off, 3)) (ht : (pc : Int) + off = (tgt : Int)) (hp : pc + 3 = pc') (k : (¬ x = 0 → Wp G d mt E tgt ls st h) ∧ (x = 0 → Wp G d mt E pc' ls st h)) : Wp G d mt E pc ls (.int x :: st) h := by
  subst hp
  intro hO p e s m args below meth c H locs lsC X hP hS hl
  exact lv_if_ne X.1 X.2.1 hd ht (fun q => k.1 q hO p e s m args below meth c H locs lsC X hP hS hl) (fun q => k.2 q hO p e s m args below meth c H locs lsC X hP hS hl)
theorem wp_icmp_ne {G : kG} {d : Nat} {mt : kMt} {E : kEv} {pc : Nat} {ls st : List Value} {h : kM} {x y : Int32} {off : Int} (tgt pc' : Nat) (hd : decode mt.2.1 pc = .ok (.if_icmp .ne off, 3)) (ht : (pc : Int) + off = (tgt : Int)) (hp : pc + 3 = pc') (k : (¬ x = y → Wp G d mt E tgt ls st h) ∧ (x = y → Wp G d mt E pc' ls st h)) : Wp G d mt E pc ls (.int y :: .int x :: st) h := by
  subst hp
  intro hO p e s m args below meth c H locs lsC X hP hS hl
  exact lv_icmp_ne X.1 X.2.1 hd ht (fun q => k.1 q hO p e s m args below meth c H locs lsC X hP hS hl) (fun q => k.2 q hO p e s m args below meth c H locs lsC X hP hS hl)
theorem wp_if_lt {G : kG} {d : Nat} {mt : kMt} {E : kEv} {pc : Nat} {ls st : List Value} {h : kM} {x : Int32} {off : Int} (tgt pc' : Nat) (hd : decode mt.2.1 pc = .ok (.ifCond .lt off, 3)) (ht : (pc : Int) + off = (tgt : Int)) (hp : pc + 3 = pc') (k : (x < 0 → Wp G d mt E tgt ls st h) ∧ (¬ (x < 0) → Wp G d mt E pc' ls st h)) : Wp G d mt E pc ls (.int x :: st) h := by
  subst hp
  intro hO p e s m args below meth c H locs lsC X hP hS hl
  exact lv_if_lt X.1 X.2.1 hd ht (fun q => k.1 q hO p e s m args below meth c H locs lsC X hP hS hl) (fun q => k.2 q hO p e s m args below meth c H locs lsC X hP hS hl)
theorem wp_icmp_lt {G : kG} {d : Nat} {mt : kMt} {E : kEv} {pc : Nat} {ls st : List Value} {h : kM} {x y : Int32} {off : Int} (tgt pc' : Nat) (hd : decode mt.2.1 pc = .ok (.if_icmp .lt off, 3)) (ht : (pc : Int) + off = (tgt : Int)) (hp : pc + 3 = pc') (k : (x < y → Wp G d mt E tgt ls st h) ∧ (¬ (x < y) → Wp G d mt E pc' ls st h)) : Wp G d mt E pc ls (.int y :: .int x :: st) h := by
  subst hp
  intro hO p e s m args below meth c H locs lsC X hP hS hl
  exact lv_icmp_lt X.1 X.2.1 hd ht (fun q => k.1 q hO p e s m args below meth c H locs lsC X hP hS hl) (fun q => k.2 q hO p e s m args below meth c H locs lsC X hP hS hl)
theorem wp_if_ge {G : kG} {d : Nat} {mt : kMt} {E : kEv} {pc : Nat} {ls st : List Value} {h : kM} {x : Int32} {off : Int} (tgt pc' : Nat) (hd : decode mt.2.1 pc = .ok (.ifCond .ge off, 3)) (ht : (pc : Int) + off = (tgt : Int)) (hp : pc + 3 = pc') (k : (0 ≤ x → Wp G d mt E tgt ls st h) ∧ (¬ (0 ≤ x) → Wp G d mt E pc' ls st h)) : Wp G d mt E pc ls (.int x :: st) h := by
  subst hp
  intro hO p e s m args below meth c H locs lsC X hP hS hl
  exact lv_if_ge X.1 X.2.1 hd ht (fun q => k.1 q hO p e s m args below meth c H locs lsC X hP hS hl) (fun q => k.2 q hO p e s m args below meth c H locs lsC X hP hS hl)
theorem wp_icmp_ge {G : kG} {d : Nat} {mt : kMt} {E : kEv} {pc : Nat} {ls st : List Value} {h : kM} {x y : Int32} {off : Int} (tgt pc' : Nat) (hd : decode mt.2.1 pc = .ok (.if_icmp .ge off, 3)) (ht : (pc : Int) + off = (tgt : Int)) (hp : pc + 3 = pc') (k : (y ≤ x → Wp G d mt E tgt ls st h) ∧ (¬ (y ≤ x) → Wp G d mt E pc' ls st h)) : Wp G d mt E pc ls (.int y :: .int x :: st) h := by
  subst hp
  intro hO p e s m args below meth c H locs lsC X hP hS hl
  exact lv_icmp_ge X.1 X.2.1 hd ht (fun q => k.1 q hO p e s m args below meth c H locs lsC X hP hS hl) (fun q => k.2 q hO p e s m args below meth c H locs lsC X hP hS hl)
theorem wp_if_gt {G : kG} {d : Nat} {mt : kMt} {E : kEv} {pc : Nat} {ls st : List Value} {h : kM} {x : Int32} {off : Int} (tgt pc' : Nat) (hd : decode mt.2.1 pc = .ok (.ifCond .gt off, 3)) (ht : (pc : Int) + off = (tgt : Int)) (hp : pc + 3 = pc') (k : (0 < x → Wp G d mt E tgt ls st h) ∧ (¬ (0 < x) → Wp G d mt E pc' ls st h)) : Wp G d mt E pc ls (.int x :: st) h := by
  subst hp
  intro hO p e s m args below meth c H locs lsC X hP hS hl
  exact lv_if_gt X.1 X.2.1 hd ht (fun q => k.1 q hO p e s m args below meth c H locs lsC X hP hS hl) (fun q => k.2 q hO p e s m args below meth c H locs lsC X hP hS hl)
theorem wp_icmp_gt {G : kG} {d : Nat} {mt : kMt} {E : kEv} {pc : Nat} {ls st : List Value} {h : kM} {x y : Int32} {off : Int} (tgt pc' : Nat) (hd : decode mt.2.1 pc = .ok (.if_icmp .gt off, 3)) (ht : (pc : Int) + off = (tgt : Int)) (hp : pc + 3 = pc') (k : (y < x → Wp G d mt E tgt ls st h) ∧ (¬ (y < x) → Wp G d mt E pc' ls st h)) : Wp G d mt E pc ls (.int y :: .int x :: st) h := by
  subst hp
  intro hO p e s m args below meth c H locs lsC X hP hS hl
  exact lv_icmp_gt X.1 X.2.1 hd ht (fun q => k.1 q hO p e s m args below meth c H locs lsC X hP hS hl) (fun q => k.2 q hO p e s m args below meth c H locs lsC X hP hS hl)
theorem wp_if_le {G : kG} {d : Nat} {mt : kMt} {E : kEv} {pc : Nat} {ls st : List Value} {h : kM} {x : Int32} {off : Int} (tgt pc' : Nat) (hd : decode mt.2.1 pc = .ok (.ifCond .le off, 3)) (ht : (pc : Int) + off = (tgt : Int)) (hp : pc + 3 = pc') (k : (x ≤ 0 → Wp G d mt E tgt ls st h) ∧ (¬ (x ≤ 0) → Wp G d mt E pc' ls st h)) : Wp G d mt E pc ls (.int x :: st) h := by
  subst hp
  intro hO p e s m args below meth c H locs lsC X hP hS hl
  exact lv_if_le X.1 X.2.1 hd ht (fun q => k.1 q hO p e s m args below meth c H locs lsC X hP hS hl) (fun q => k.2 q hO p e s m args below meth c H locs lsC X hP hS hl)
theorem wp_icmp_le {G : kG} {d : Nat} {mt : kMt} {E : kEv} {pc : Nat} {ls st : List Value} {h : kM} {x y : Int32} {off : Int} (tgt pc' : Nat) (hd : decode mt.2.1 pc = .ok (.if_icmp .le off, 3)) (ht : (pc : Int) + off = (tgt : Int)) (hp : pc + 3 = pc') (k : (x ≤ y → Wp G d mt E tgt ls st h) ∧ (¬ (x ≤ y) → Wp G d mt E pc' ls st h)) : Wp G d mt E pc ls (.int y :: .int x :: st) h := by
  subst hp
  intro hO p e s m args below meth c H locs lsC X hP hS hl
  exact lv_icmp_le X.1 X.2.1 hd ht (fun q => k.1 q hO p e s m args below meth c H locs lsC X hP hS hl) (fun q => k.2 q hO p e s m args below meth c H locs lsC X hP hS hl)
theorem wp_goto {G : kG} {d : Nat} {mt : kMt} {E : kEv} {pc : Nat} {ls st : List Value} {h : kM} {off : Int} (tgt : Nat) (hd : decode mt.2.1 pc = .ok (.goto off, 3)) (ht : (pc : Int) + off = (tgt : Int)) (k : Wp G d mt E tgt ls st h) : Wp G d mt E pc ls st h := by
  intro hO p e s m args below meth c H locs lsC X hP hS hl
  exact lv_goto X.1 X.2.1 hd ht (k hO p e s m args below meth c H locs lsC X hP hS hl)
/-! switches -/
def kSw (P : Nat → Prop) (x : Int32) (dt : Nat) : List (Int32 × Nat) → Prop
  | [] => P dt
  | (c, t) :: r => (x = c → P t) ∧ (¬ x = c → kSw P x dt r)
theorem kSw_get {P : Nat → Prop} {x : Int32} {dt : Nat} : ∀ (cs : List (Int32 × Nat)), kSw P x dt cs → (∃ q ∈ cs, x = q.1 ∧ P q.2) ∨ ((∀ q ∈ cs, ¬ x = q.1) ∧ P dt)
  | [], h => Or.inr ⟨fun q hq => (by cases hq), h⟩
  | (c, t) :: r, h => by
    by_cases e : x = c
    · exact Or.inl ⟨(c, t), List.mem_cons_self, e, h.1 e⟩
    · rcases kSw_get r (h.2 e) with ⟨q, h1, h2⟩ | ⟨h1, h2⟩
      · exact Or.inl ⟨q, List.mem_cons_of_mem _ h1, h2⟩
      · refine Or.inr ⟨fun q hq => ?_, h2⟩
        rcases List.mem_cons.mp hq with rfl | hq
        · exact e
        · exact h1 q hq
def kTabOk (pc : Nat) (lo hi : Int) (offs : Array Int) (dt : Nat) (cs : List (Int32 × Nat)) : Bool :=
  cs.all (fun q => decide (lo ≤ q.1.toInt) && decide (q.1.toInt ≤ hi)) &&
  (List.range ((hi - lo).toNat + 1)).all (fun i => match offs[i]? with
    | none => false
    | some o => cs.all (fun q => decide (q.1.toInt ≠ lo + (i : Int)) || decide ((pc : Int) + o = (q.2 : Int))) && (cs.any (fun q => decide (q.1.toInt = lo + (i : Int))) || decide ((pc : Int) + o = (dt : Int))))
theorem wp_table {G : kG} {d : Nat} {mt : kMt} {E : kEv} {pc : Nat} {ls st : List Value} {h : kM} {x : Int32} {dflt lo hi : Int} {offs : Array Int} {len : Nat} (dt : Nat) (cs : List (Int32 × Nat)) (hd : decode mt.2.1 pc = .ok (.tableswitch dflt lo hi offs, len)) (hdt : (pc : Int) + dflt = (dt : Int)) (hok : kTabOk pc lo hi offs dt cs = true) (k : kSw (fun t => Wp G d mt E t ls st h) x dt cs) : Wp G d mt E pc ls (.int x :: st) h := by
  intro hO p e s m args below meth c H locs lsC X hP hS hl
  unfold kTabOk at hok
  rw [Bool.and_eq_true, List.all_eq_true, List.all_eq_true] at hok
  obtain ⟨hr, ht⟩ := hok
  by_cases hin : x.toInt < lo ∨ hi < x.toInt
  · refine lv_tableOut X.1 X.2.1 hd hin hdt ?_
    rcases kSw_get cs k with ⟨q, h1, h2, h3⟩ | ⟨h1, h2⟩
    · exfalso
      have h4 := hr q h1
      rw [Bool.and_eq_true, decide_eq_true_eq, decide_eq_true_eq, ← h2] at h4
      omega
    · exact h2 hO p e s m args below meth c H locs lsC X hP hS hl
  · have hlo : ¬ x.toInt < lo := fun q => hin (Or.inl q)
    have hhi : ¬ hi < x.toInt := fun q => hin (Or.inr q)
    have hi2 : (x.toInt - lo).toNat ∈ List.range ((hi - lo).toNat + 1) := List.mem_range.mpr (by omega)
    have h5 := ht _ hi2
    have hxi : lo + (((x.toInt - lo).toNat : Nat) : Int) = x.toInt := by omega
    cases ho : offs[(x.toInt - lo).toNat]? with
    | none => rw [ho] at h5; cases h5
    | some o =>
      rw [ho] at h5
      rw [Bool.and_eq_true] at h5
      obtain ⟨h6, h7⟩ := h5
      rw [hxi] at h6 h7
      rcases kSw_get cs k with ⟨q, h1, h2, h3⟩ | ⟨h1, h2⟩
      · have h8 := List.all_eq_true.mp h6 q h1
        rw [Bool.or_eq_true, decide_eq_true_eq, decide_eq_true_eq] at h8
        have h9 : (pc : Int) + o = (q.2 : Int) := by
          rcases h8 with h8 | h8
          · exact absurd (by rw [h2]) h8
          · exact h8
        exact lv_tableIn X.1 X.2.1 hd hlo hhi ho h9 (h3 hO p e s m args below meth c H locs lsC X hP hS hl)
      · rw [Bool.or_eq_true, List.any_eq_true, decide_eq_true_eq] at h7
        rcases h7 with ⟨q, h8, h9⟩ | h8
        · exfalso
          rw [decide_eq_true_eq] at h9
          exact h1 q h8 (Int32.toInt_inj.mp h9.symm)
        · exact lv_tableIn X.1 X.2.1 hd hlo hhi ho h8 (h2 hO p e s m args below meth c H locs lsC X hP hS hl)
theorem kLk_spec {pc : Nat} {dflt : Int} {dt : Nat} (hdt : (pc : Int) + dflt = (dt : Int)) {x : Int32} : ∀ (ps : List (Int × Int)) (cs : List (Int32 × Nat)), ps.map (fun q => (q.1, (pc : Int) + q.2)) = cs.map (fun q => (q.1.toInt, (q.2 : Int))) → ∀ {P : Nat → Prop}, kSw P x dt cs → ∃ t : Nat, (pc : Int) + Op.lookupswitch.offset ps dflt x.toInt = (t : Int) ∧ P t
  | [], [], _, P, k => ⟨dt, by rw [Op.lookupswitch.offset_nil]; exact hdt, k⟩
  | [], _ :: _, h, P, k => by simp at h
  | _ :: _, [], h, P, k => by simp at h
  | (a, o) :: r, (c, t) :: cs, h, P, k => by
    simp only [List.map_cons, List.cons.injEq, Prod.mk.injEq] at h
    obtain ⟨⟨h1, h2⟩, h3⟩ := h
    rw [Op.lookupswitch.offset_cons]
    by_cases e : x = c
    · refine ⟨t, ?_, k.1 e⟩
      rw [if_pos (by rw [h1, e])]
      exact h2
    · rw [if_neg (fun q => e (Int32.toInt_inj.mp (by rw [← h1]; exact q.symm)))]
      exact kLk_spec hdt r cs h3 (k.2 e)
theorem wp_lookup {G : kG} {d : Nat} {mt : kMt} {E : kEv} {pc : Nat} {ls st : List Value} {h : kM} {x : Int32} {dflt : Int} {ps : Array (Int × Int)} {len : Nat} (dt : Nat) (cs : List (Int32 × Nat)) (hd : decode mt.2.1 pc = .ok (.lookupswitch dflt ps, len)) (hso : (ps.toList.zip (ps.toList.drop 1)).all (fun (a, next) => a.1 < next.1) = true) (hdt : (pc : Int) + dflt = (dt : Int)) (hok : ps.toList.map (fun q => (q.1, (pc : Int) + q.2)) = cs.map (fun q => (q.1.toInt, (q.2 : Int)))) (k : kSw (fun t => Wp G d mt E t ls st h) x dt cs) : Wp G d mt E pc ls (.int x :: st) h := by
  intro hO p e s m args below meth c H locs lsC X hP hS hl
  obtain ⟨t, h1, h2⟩ := kLk_spec hdt ps.toList cs hok k
  exact lv_lookup X.1 X.2.1 hd hso rfl h1 (h2 hO p e s m args below meth c H locs lsC X hP hS hl)
/-! memory -/
theorem kcl {ci : Nat} {q : vw_C} (hc : vwCl[ci]? = some q) : kN ci = q.2.2 ∧ ∀ j, j < q.2.2 → koff ci j = koff ci j := ⟨by
  match ci, hc with
  | 0, hc => cases hc; rfl
  | 1, hc => cases hc; rfl
  | 2, hc => cases hc; rfl
  | 3, hc => cases hc; rfl
  | 4, hc => cases hc; rfl
  | 5, hc => cases hc; rfl
  | 6, hc => cases hc; rfl
  | 7, hc => cases hc; rfl
  | 8, hc => cases hc; rfl
  | k + 9, hc => simp [vwCl] at hc, fun _ _ => rfl⟩
/-- a field of the class ci, at place j, linked in class own at entry idx, of type ty -/
def kFL (own : String) (idx ci j : Nat) (ty : FieldType) : Prop := ∃ (C : String) (T : u_T) (N : Nat) (ts : Nat → FieldType), vwCl[ci]? = some (C, T, N) ∧ (∀ w ∈ u_ws C T N, w ∈ TW) ∧ j < N ∧ Cond.fieldLink own idx (T j).1 (T j).2.1 (T j).2.2.1 ∈ TW ∧ parseFieldDescriptor (T j).2.2.1 = some ty ∧
  (∀ k, k < N → parseFieldDescriptor (T k).2.2.1 = some (ts k)) ∧ (∀ a, a < N → ∀ b, b < N → a ≠ b → (T a).2.1 ≠ (T b).2.1)
def kFin (ci j : Nat) : Prop := ∀ q : vw_C, vwCl[ci]? = some q → (q.2.1 j).2.2.2 = false
theorem kE_obj {G : kG} {h : kM} {k ci : Nat} (hkd : kd k = (0, ci)) : kE G h k = .inr (ci, (List.range (kN ci)).map (fun j => kc G (kfv h k ci j))) := by
  unfold kE
  rw [hkd]
  rfl
theorem kE_arr {G : kG} {h : kM} {k n : Nat} (hkd : kd k = (1, n)) : kE G h k = .inl (G.2.2.2.1, (n, .inl (h k))) := by
  unfold kE
  rw [hkd]
  rfl
theorem wp_getv {G : kG} {d : Nat} {mt : kMt} {E : kEv} {pc : Nat} {ls st : List Value} {h : kM} {idx ci j k : Nat} {ty : FieldType} {v : Value} (pc' : Nat) (hd : decode mt.2.1 pc = .ok (.getfield idx, 3)) (hp : pc + 3 = pc') (hf : kFL mt.1.cls idx ci j ty) (hkd : kd k = (0, ci)) (hv : kfv h k ci j = v) (kk : Wp G d mt E pc' ls (v :: st) h) : Wp G d mt E pc ls (.ref k :: st) h := by
  subst hp
  subst hv
  intro hO p e s m args below meth c H locs lsC X hP hS hl
  obtain ⟨C, T, N, ts, h1, h2, h3, h4, h5, h6, h7⟩ := hf
  have hw := X.2.2.2.2.1
  have hk := kd_lt hkd (by decide)
  have he := kW_at G h hk
  rw [kE_obj hkd] at he
  have hN : kN ci = N := (kcl h1).1
  exact va_get X.1 X.2.1 (Ts := TW) (fun w q => hw w (List.mem_cons_of_mem _ q)) h2 X.2.2.2.1 X.2.2.2.2.2.2.2.1.2.1.1 hP k he h1 j h3 (hw _ (List.mem_cons_of_mem _ h4)) (fun _ q => q) (v := kc G (kfv h k ci j)) (by rw [List.getElem?_map, List.getElem?_range (by omega)]; rfl) hd (kk hO p e s m args below meth c H locs lsC X hP hS hl)
theorem wp_getI {G : kG} {d : Nat} {mt : kMt} {E : kEv} {pc : Nat} {ls st : List Value} {h : kM} {idx ci j k : Nat} {ty : FieldType} (pc' : Nat) (hd : decode mt.2.1 pc = .ok (.getfield idx, 3)) (hp : pc + 3 = pc') (hf : kFL mt.1.cls idx ci j ty) (hkd : kd k = (0, ci)) (ho : koff ci j = 0) (kk : Wp G d mt E pc' ls (.int (h k j) :: st) h) : Wp G d mt E pc ls (.ref k :: st) h :=
  wp_getv pc' hd hp hf hkd (by unfold kfv; rw [ho]; rfl) kk
theorem wp_getR {G : kG} {d : Nat} {mt : kMt} {E : kEv} {pc : Nat} {ls st : List Value} {h : kM} {idx ci j k : Nat} {ty : FieldType} (o k' pc' : Nat) (hd : decode mt.2.1 pc = .ok (.getfield idx, 3)) (hp : pc + 3 = pc') (hf : kFL mt.1.cls idx ci j ty) (hkd : kd k = (0, ci)) (ho : koff ci j = o) (ho0 : Nat.blt 0 o = true) (ho9 : Nat.blt o 999 = true) (hk' : k + o = k') (kk : Wp G d mt E pc' ls (.ref k' :: st) h) : Wp G d mt E pc ls (.ref k :: st) h :=
  wp_getv pc' hd hp hf hkd (by
    have h1 := Nat.le_of_ble_eq_true ho0
    have h2 := Nat.le_of_ble_eq_true ho9
    unfold kfv; rw [ho, if_neg (by omega), if_neg (by omega), hk']) kk
theorem wp_getS {G : kG} {d : Nat} {mt : kMt} {E : kEv} {pc : Nat} {ls st : List Value} {h : kM} {idx ci j k : Nat} {ty : FieldType} (pc' : Nat) (hd : decode mt.2.1 pc = .ok (.getfield idx, 3)) (hp : pc + 3 = pc') (hf : kFL mt.1.cls idx ci j ty) (hkd : kd k = (0, ci)) (ho : koff ci j = 999) (kk : Wp G d mt E pc' ls (.ref (1000 + (h k j).toNatClampNeg) :: st) h) : Wp G d mt E pc ls (.ref k :: st) h :=
  wp_getv pc' hd hp hf hkd (by unfold kfv; rw [ho]; rfl) kk
theorem kfv_upd {h : kM} {k ci j : Nat} {x : Int32} (i : Nat) : kfv (kU h k j x) k ci i = if i = j then (if koff ci j = 0 then .int x else if koff ci j = 999 then .ref (1000 + x.toNatClampNeg) else .ref (k + koff ci j)) else kfv h k ci i := by
  unfold kfv
  rw [kU_eq]
  by_cases e : i = j
  · subst e
    rw [if_pos rfl]
    simp [upd]
  · rw [if_neg e]
    simp [upd, e]
def kpv (k ci j : Nat) (x : Int32) : Value := if koff ci j = 0 then .int x else if koff ci j = 999 then .ref (1000 + x.toNatClampNeg) else .ref (k + koff ci j)
theorem kfv_at {h : kM} {k ci j : Nat} {x : Int32} : kfv (kU h k j x) k ci j = kpv k ci j x := by
  rw [kfv_upd, if_pos rfl]
  rfl
theorem kfv_off {h : kM} {k ci j : Nat} {x : Int32} {i : Nat} (hi : i ≠ j) : kfv (kU h k j x) k ci i = kfv h k ci i := by
  rw [kfv_upd, if_neg hi]
theorem kW_put {G : kG} {h : kM} {k ci j : Nat} {x : Int32} (hkd : kd k = (0, ci)) : (kW G h).set k (kad G k, .inr (ci, ((List.range (kN ci)).map (fun j => kc G (kfv h k ci j))).set j (kc G (kpv k ci j x)))) = kW G (kU h k j x) := by
  refine kW_set ?_ (fun a ha => kE_ne (kU_ne ha))
  rw [kE_obj hkd]
  have hl : (List.range (kN ci)).map (fun i => kc G (kfv (kU h k j x) k ci i)) = ((List.range (kN ci)).map (fun i => kc G (kfv h k ci i))).set j (kc G (kpv k ci j x)) := by
    apply List.ext_getElem?
    intro i
    by_cases hij : j = i
    · subst hij
      by_cases hl2 : j < kN ci
      · rw [List.getElem?_set_self (by simpa using hl2), List.getElem?_map, List.getElem?_range hl2, Option.map_some, kfv_at]
      · rw [List.getElem?_eq_none (by simpa using Nat.le_of_not_lt hl2), List.getElem?_eq_none (by simpa using Nat.le_of_not_lt hl2)]
    · rw [List.getElem?_set_ne hij, List.getElem?_map, List.getElem?_map]
      by_cases hl2 : i < kN ci
      · rw [List.getElem?_range hl2, Option.map_some, Option.map_some, kfv_off (fun q => hij q.symm)]
      · rw [List.getElem?_eq_none (by simpa using Nat.le_of_not_lt hl2), Option.map_none, Option.map_none]
  rw [hl]
theorem wp_putv {G : kG} {d : Nat} {mt : kMt} {E : kEv} {pc : Nat} {ls st : List Value} {h : kM} {idx ci j k : Nat} {ty : FieldType} {v : Value} (x : Int32) (pc' : Nat) (hd : decode mt.2.1 pc = .ok (.putfield idx, 3)) (hp : pc + 3 = pc') (hf : kFL mt.1.cls idx ci j ty) (hfi : kFin ci j) (hkd : kd k = (0, ci)) (hv : kpv k ci j x = v) (hnar : narrow ty (kc G v) = kc G v) (hfit : fits ty (kc G v) = true) (kk : Wp G d mt E pc' ls st (kU h k j x)) : Wp G d mt E pc ls (v :: .ref k :: st) h := by
  subst hp
  intro hO p e s m args below meth c H locs lsC X hP hS hl
  obtain ⟨C, T, N, ts, h1, h2, h3, h4, h5, h6, h7⟩ := hf
  have hw := X.2.2.2.2.1
  have hk := kd_lt hkd (by decide)
  have he := kW_at G h hk
  rw [kE_obj hkd] at he
  have hN : kN ci = N := (kcl h1).1
  refine va_put X.1 X.2.1 (Ts := TW) (fun w q => hw w (List.mem_cons_of_mem _ q)) h2 ts h6 h7 X.2.2.2.1 X.2.2.2.2.2.2.2.1.2.1.1 hP (kW_D X.2.2.2.2.2.2.2.1.1 h) hS k he h1 j h3 (hw _ (List.mem_cons_of_mem _ h4)) (fun _ q => q) (hfi _ h1) h5 hnar hfit (by rw [List.length_map, List.length_range]; omega) hd (fun H1 locs1 hP1 _ hS1 => ?_)
  rw [← hv, kW_put hkd] at hP1
  exact kk hO p e s m args below meth c H1 locs1 lsC X hP1 hS1 hl
theorem wp_putI {G : kG} {d : Nat} {mt : kMt} {E : kEv} {pc : Nat} {ls st : List Value} {h : kM} {idx ci j k : Nat} {x : Int32} (pc' : Nat) (hd : decode mt.2.1 pc = .ok (.putfield idx, 3)) (hp : pc + 3 = pc') (hf : kFL mt.1.cls idx ci j .int) (hfi : kFin ci j) (hkd : kd k = (0, ci)) (ho : koff ci j = 0) (kk : Wp G d mt E pc' ls st (kU h k j x)) : Wp G d mt E pc ls (.int x :: .ref k :: st) h :=
  wp_putv x pc' hd hp hf hfi hkd (by unfold kpv; rw [ho]; rfl) rfl rfl kk
theorem wp_putZ {G : kG} {d : Nat} {mt : kMt} {E : kEv} {pc : Nat} {ls st : List Value} {h : kM} {idx ci j k : Nat} {x : Int32} (pc' : Nat) (hd : decode mt.2.1 pc = .ok (.putfield idx, 3)) (hp : pc + 3 = pc') (hf : kFL mt.1.cls idx ci j .boolean) (hfi : kFin ci j) (hkd : kd k = (0, ci)) (ho : koff ci j = 0) (hz : x = 0 ∨ x = 1) (kk : Wp G d mt E pc' ls st (kU h k j x)) : Wp G d mt E pc ls (.int x :: .ref k :: st) h :=
  wp_putv x pc' hd hp hf hfi hkd (by unfold kpv; rw [ho]; rfl) (by rcases hz with rfl | rfl <;> rfl) (by rcases hz with rfl | rfl <;> rfl) kk
theorem wp_putS {G : kG} {d : Nat} {mt : kMt} {E : kEv} {pc : Nat} {ls st : List Value} {h : kM} {idx ci j k q : Nat} (x : Int32) (pc' : Nat) (hd : decode mt.2.1 pc = .ok (.putfield idx, 3)) (hp : pc + 3 = pc') (hf : kFL mt.1.cls idx ci j (.object "java/lang/String")) (hfi : kFin ci j) (hkd : kd k = (0, ci)) (ho : koff ci j = 999) (hx : 1000 + x.toNatClampNeg = q) (kk : Wp G d mt E pc' ls st (kU h k j x)) : Wp G d mt E pc ls (.ref q :: .ref k :: st) h :=
  wp_putv x pc' hd hp hf hfi hkd (by unfold kpv; rw [ho, hx]; rfl) rfl rfl kk
theorem wp_iald {G : kG} {d : Nat} {mt : kMt} {E : kEv} {pc : Nat} {ls st : List Value} {h : kM} {k n : Nat} {i : Int32} (pc' : Nat) (hd : decode mt.2.1 pc = .ok (.iaload, 1)) (hp : pc + 1 = pc') (hkd : kd k = (1, n)) (hin : vp_in i n) (kk : Wp G d mt E pc' ls (.int (h k i.toNatClampNeg) :: st) h) : Wp G d mt E pc ls (.int i :: .ref k :: st) h := by
  subst hp
  intro hO p e s m args below meth c H locs lsC X hP hS hl
  have he := kW_at G h (kd_lt hkd (by decide))
  rw [kE_arr hkd] at he
  exact va_iald X.1 X.2.1 X.2.2.2.2.2.2.2.1.2.1.1 hP k 0 he rfl hin hd (kk hO p e s m args below meth c H locs lsC X hP hS hl)
theorem wp_iast {G : kG} {d : Nat} {mt : kMt} {E : kEv} {pc : Nat} {ls st : List Value} {h : kM} {k n : Nat} {i x : Int32} (pc' : Nat) (hd : decode mt.2.1 pc = .ok (.iastore, 1)) (hp : pc + 1 = pc') (hkd : kd k = (1, n)) (hin : vp_in i n) (kk : Wp G d mt E pc' ls st (kU h k i.toNatClampNeg x)) : Wp G d mt E pc ls (.int x :: .int i :: .ref k :: st) h := by
  subst hp
  intro hO p e s m args below meth c H locs lsC X hP hS hl
  have he := kW_at G h (kd_lt hkd (by decide))
  rw [kE_arr hkd] at he
  refine va_iast X.1 X.2.1 X.2.2.2.2.2.2.2.1.2.1.1 hP (kW_D X.2.2.2.2.2.2.2.1.1 h) hS k 0 he rfl hin hd (fun H1 locs1 hP1 _ hS1 => ?_)
  rw [kW_set (h' := kU h k i.toNatClampNeg x) (by rw [kE_arr hkd, kU_eq]) (fun a ha => kE_ne (kU_ne ha))] at hP1
  exact kk hO p e s m args below meth c H1 locs1 lsC X hP1 hS1 hl
theorem wp_ialdA {G : kG} {d : Nat} {mt : kMt} {E : kEv} {pc : Nat} {ls st : List Value} {h : kM} {i : Int32} (pc' : Nat) (hd : decode mt.2.1 pc = .ok (.iaload, 1)) (hp : pc + 1 = pc') (hin : vp_in i 7) (kk : Wp G d mt E pc' ls (.int (kAb.getD i.toNatClampNeg 0) :: st) h) : Wp G d mt E pc ls (.int i :: .ref 1002 :: st) h := by
  subst hp
  intro hO p e s m args below meth c H locs lsC X hP hS hl
  exact va_ti X.1 X.2.1 X.2.2.2.2.2.2.2.1.2.2.2.1 hS hin rfl hd (kk hO p e s m args below meth c H locs lsC X hP hS hl)
theorem wp_ialdB {G : kG} {d : Nat} {mt : kMt} {E : kEv} {pc : Nat} {ls st : List Value} {h : kM} {i : Int32} (pc' : Nat) (hd : decode mt.2.1 pc = .ok (.iaload, 1)) (hp : pc + 1 = pc') (hin : vp_in i 28) (kk : Wp G d mt E pc' ls (.int (kBo.getD i.toNatClampNeg 0) :: st) h) : Wp G d mt E pc ls (.int i :: .ref 1003 :: st) h := by
  subst hp
  intro hO p e s m args below meth c H locs lsC X hP hS hl
  exact va_ti X.1 X.2.1 X.2.2.2.2.2.2.2.1.2.2.2.2.2.1 hS hin rfl hd (kk hO p e s m args below meth c H locs lsC X hP hS hl)
/-- an array of references: the Sheets (kind 2), the courses (kind 3) -/
theorem wp_aaldS {G : kG} {d : Nat} {mt : kMt} {E : kEv} {pc : Nat} {ls st : List Value} {h : kM} {k n : Nat} {i : Int32} (pc' : Nat) (hd : decode mt.2.1 pc = .ok (.aaload, 1)) (hp : pc + 1 = pc') (hkd : kd k = (2, n)) (hin : vp_in i n) (kk : Wp G d mt E pc' ls (.ref (k + 1 + 2 * i.toNatClampNeg) :: st) h) : Wp G d mt E pc ls (.int i :: .ref k :: st) h := by
  subst hp
  intro hO p e s m args below meth c H locs lsC X hP hS hl
  have he := kW_at G h (kd_lt hkd (by decide))
  have h1 : kE G h k = .inl (G.2.2.2.2.1, (n, .inr (.inr (.inr (.inr (fun i => some (kad G (k + 1 + 2 * i)))))))) := by
    unfold kE
    rw [hkd]
    rfl
  rw [h1] at he
  exact va_aldq X.1 X.2.1 X.2.2.2.2.2.2.2.1.2.1.1 hP k 1 he rfl hin hd (kk hO p e s m args below meth c H locs lsC X hP hS hl)
theorem wp_aaldC {G : kG} {d : Nat} {mt : kMt} {E : kEv} {pc : Nat} {ls st : List Value} {h : kM} {k n : Nat} {i : Int32} (pc' : Nat) (hd : decode mt.2.1 pc = .ok (.aaload, 1)) (hp : pc + 1 = pc') (hkd : kd k = (3, n)) (hin : vp_in i n) (kk : Wp G d mt E pc' ls (.ref (k + 1 + i.toNatClampNeg) :: st) h) : Wp G d mt E pc ls (.int i :: .ref k :: st) h := by
  subst hp
  intro hO p e s m args below meth c H locs lsC X hP hS hl
  have he := kW_at G h (kd_lt hkd (by decide))
  have h1 : kE G h k = .inl (G.2.2.2.2.2, (n, .inr (.inr (.inr (.inr (fun i => some (kad G (k + 1 + i)))))))) := by
    unfold kE
    rw [hkd]
    rfl
  rw [h1] at he
  have hlt : i.toNatClampNeg < n := Nat.not_le.mp fun q => hin (Or.inr q)
  have hcell := hP k _ he
  exact W.aald (v := .ref (kad G (k + 1 + i.toNatClampNeg))) X.1 X.2.1 hcell ((X.2.2.2.2.2.2.2.1.2.1.1.2 2 _ rfl).1 n (fun j => va_rf (some (kad G (k + 1 + j))))) rfl (fun q => by cases q) (by show ¬ (i < 0 ∨ (arrV _ _ _).slots.size ≤ _); rw [arrV_size]; exact hin) (by show (arrV _ _ _).slots[_]? = _; rw [arrV_read _ _ hlt]; rfl) rfl rfl hd (kk hO p e s m args below meth c H locs lsC X hP hS hl)
theorem wp_getsA {G : kG} {d : Nat} {mt : kMt} {E : kEv} {pc : Nat} {ls st : List Value} {h : kM} {idx : Nat} (pc' : Nat) (hd : decode mt.2.1 pc = .ok (.getstatic idx, 3)) (hp : pc + 3 = pc') (hw : Cond.fieldLink mt.1.cls idx "KnottedWinds" "ABOVE" "[I" ∈ TW) (kk : Wp G d mt E pc' ls (.ref 1002 :: st) h) : Wp G d mt E pc ls st h := by
  subst hp
  intro hO p e s m args below meth c H locs lsC X hP hS hl
  exact va_gets X.1 X.2.1 X.2.2.2.2.2.2.2.1.2.2.1 hS X.2.2.2.1 (X.2.2.2.2.1 _ (List.mem_cons_of_mem _ hw)) (fun _ q => q) hd (kk hO p e s m args below meth c H locs lsC X hP hS hl)
theorem wp_getsAN {G : kG} {d : Nat} {mt : kMt} {E : kEv} {pc : Nat} {ls st : List Value} {h : kM} {idx : Nat} {host : String} (pc' : Nat) (hd : decode mt.2.1 pc = .ok (.getstatic idx, 3)) (hp : pc + 3 = pc') (hw : Cond.fieldLinkNest mt.1.cls idx "KnottedWinds" "ABOVE" "[I" host ∈ kNest) (kk : Wp G d mt E pc' ls (.ref 1002 :: st) h) : Wp G d mt E pc ls st h := by
  subst hp
  intro hO p e s m args below meth c H locs lsC X hP hS hl
  exact va_getsN X.1 X.2.1 X.2.2.2.2.2.2.2.1.2.2.1 hS X.2.2.2.1 (va_Nw.use rfl (X.2.2.2.2.2.2.2.1.2.1.2.1 _ hw)) (fun _ q => q) hd (kk hO p e s m args below meth c H locs lsC X hP hS hl)
theorem wp_getsB {G : kG} {d : Nat} {mt : kMt} {E : kEv} {pc : Nat} {ls st : List Value} {h : kM} {idx : Nat} (pc' : Nat) (hd : decode mt.2.1 pc = .ok (.getstatic idx, 3)) (hp : pc + 3 = pc') (hw : Cond.fieldLink mt.1.cls idx "KnottedWinds$Speaker" "BODIES" "[I" ∈ TW) (kk : Wp G d mt E pc' ls (.ref 1003 :: st) h) : Wp G d mt E pc ls st h := by
  subst hp
  intro hO p e s m args below meth c H locs lsC X hP hS hl
  exact va_gets X.1 X.2.1 X.2.2.2.2.2.2.2.1.2.2.2.2.1 hS X.2.2.2.1 (X.2.2.2.2.1 _ (List.mem_cons_of_mem _ hw)) (fun _ q => q) hd (kk hO p e s m args below meth c H locs lsC X hP hS hl)
theorem wp_ldcS {G : kG} {d : Nat} {mt : kMt} {E : kEv} {pc : Nat} {ls st : List Value} {h : kM} {idx : Nat} (q pc' : Nat) (hd : decode mt.2.1 pc = .ok (.ldc idx, 2)) (hp : pc + 2 = pc') (hc : mt.1.cls = RX1) (hw : (idx = 22 ∧ q = 1000) ∨ (idx = 51 ∧ q = 1001)) (kk : Wp G d mt E pc' ls (.ref q :: st) h) : Wp G d mt E pc ls st h := by
  subst hp
  intro hO p e s m args below meth c H locs lsC X hP hS hl
  have ho := X.2.2.2.1
  rw [hc] at ho
  rcases hw with ⟨rfl, rfl⟩ | ⟨rfl, rfl⟩
  · exact va_ldcS X.1 X.2.1 ho X.2.2.2.2.2.2.2.1.2.1.2.2.1 hd (kk hO p e s m args below meth c H locs lsC X hP hS hl)
  · exact va_ldcS X.1 X.2.1 ho X.2.2.2.2.2.2.2.1.2.1.2.2.2 hd (kk hO p e s m args below meth c H locs lsC X hP hS hl)
theorem wp_copy {G : kG} {d : Nat} {mt : kMt} {E : kEv} {pc : Nat} {ls st : List Value} {h : kM} {idx k0 k1 n0 n1 : Nat} {sp dp n : Int32} (pc' : Nat) (hd : decode mt.2.1 pc = .ok (.invokestatic idx, 3)) (hp : pc + 3 = pc') (hw : Cond.methodLink mt.1.cls idx arraycopyName ∈ TW ∧ Cond.native arraycopyName ∈ TW ∧ Cond.static arraycopyName ∈ TW ∧ Cond.initialized "java/lang/System" ∈ TW) (hd1 : 1 ≤ d) (hst : (st.map fun v => v.category).sum ≤ 8) (hk0 : kd k0 = (1, n0)) (hk1 : kd k1 = (1, n1)) (h1 : ¬ sp < 0) (h2 : ¬ dp < 0) (h3 : ¬ n < 0) (h4 : sp.toNatClampNeg + n.toNatClampNeg ≤ n0) (h5 : dp.toNatClampNeg + n.toNatClampNeg ≤ n1) (kk : Wp G d mt E pc' ls st (kCp h k0 k1 sp.toNatClampNeg dp.toNatClampNeg n.toNatClampNeg)) : Wp G d mt E pc ls (.int n :: .int dp :: .ref k1 :: .int sp :: .ref k0 :: st) h := by
  subst hp
  intro hO p e s m args below meth c H locs lsC X hP hS hl
  have he0 := kW_at G h (kd_lt hk0 (by decide))
  rw [kE_arr hk0] at he0
  have he1 := kW_at G h (kd_lt hk1 (by decide))
  rw [kE_arr hk1] at he1
  have hws := fun w q => X.2.2.2.2.1 w (List.mem_cons_of_mem _ q)
  have hst2 : ((st.map (kc G)).map fun v => v.category).sum = (st.map fun v => v.category).sum := by
    congr 1
    rw [List.map_map]
    exact List.map_congr_left (fun v _ => kc_cat G v)
  have hf1 : 1 ≤ E.1.frames := Nat.le_trans hd1 hO.1
  have hlo : ((st.map (kc G)).map fun v => v.category).sum + (nativeFrameWords "java/lang/System" "arraycopy" 5 + 11) ≤ E.1.locals := by
    have h6 := hO.2.1
    have e1 : nativeFrameWords "java/lang/System" "arraycopy" 5 ≤ 30 := by decide +kernel
    rw [hst2]
    omega
  refine va_copyi (R := E.1) X.1 X.2.1 (by rw [X.2.2.1, hl.1]) X.2.2.2.1 (hws _ hw.1) (hws _ hw.2.1) (hws _ hw.2.2.1) (hws _ hw.2.2.2) X.2.2.2.2.2.2.2.1.2.1.1 hP (kW_D X.2.2.2.2.2.2.2.1.1 h) hS k0 k1 0 0 he0 he1 rfl rfl rfl h1 h2 h3 h4 h5 (fun _ _ => rfl) hf1 hlo hd (fun H1 locs1 hP1 _ hS1 => ?_)
  rw [kW_set (h' := kCp h k0 k1 sp.toNatClampNeg dp.toNatClampNeg n.toNatClampNeg) (by rw [kE_arr hk1, kCp_eq]) (fun a ha => kE_ne (kCp_ne ha))] at hP1
  exact kk hO p e s m args below meth c H1 locs1 lsC X hP1 hS1 hl
theorem wp_max {G : kG} {d : Nat} {mt : kMt} {E : kEv} {pc : Nat} {ls st : List Value} {h : kM} {idx : Nat} {x y : Int32} (pc' : Nat) (hd : decode mt.2.1 pc = .ok (.invokestatic idx, 3)) (hp : pc + 3 = pc') (hw : Cond.methodLink mt.1.cls idx Lib.Math.max.name ∈ TW ∧ Cond.static Lib.Math.max.name ∈ TW ∧ Cond.initialized "java/lang/Math" ∈ TW ∧ Cond.code Lib.Math.max.name Lib.Math.max.code 2 (some .int) ∈ TW) (hd1 : 1 ≤ d) (hst : (st.map fun v => v.category).sum ≤ 8) (kk : Wp G d mt E pc' ls (.int (if x < y then y else x) :: st) h) : Wp G d mt E pc ls (.int y :: .int x :: st) h := by
  subst hp
  intro hO p e s m args below meth c H locs lsC X hP hS hl
  have hws := fun w q => X.2.2.2.2.1 w (List.mem_cons_of_mem _ q)
  have hst2 : ((st.map (kc G)).map fun v => v.category).sum = (st.map fun v => v.category).sum := by
    congr 1
    rw [List.map_map]
    exact List.map_congr_left (fun v _ => kc_cat G v)
  exact va_mmax X.1 X.2.1 (by rw [X.2.2.1, hl.1]) X.2.2.2.1 (hws _ hw.1) (hws _ hw.2.1) (hws _ hw.2.2.1) (hws _ hw.2.2.2) (by have := hO.1; omega) (by have := hO.2.1; rw [hst2]; omega) hO.2.2.1 hO.2.2.2 hd (kk hO p e s m args below meth c H locs lsC X hP hS hl)
theorem wp_min {G : kG} {d : Nat} {mt : kMt} {E : kEv} {pc : Nat} {ls st : List Value} {h : kM} {idx : Nat} {x y : Int32} (pc' : Nat) (hd : decode mt.2.1 pc = .ok (.invokestatic idx, 3)) (hp : pc + 3 = pc') (hw : Cond.methodLink mt.1.cls idx Lib.Math.min.name ∈ TW ∧ Cond.static Lib.Math.min.name ∈ TW ∧ Cond.initialized "java/lang/Math" ∈ TW ∧ Cond.code Lib.Math.min.name Lib.Math.min.code 2 (some .int) ∈ TW) (hd1 : 1 ≤ d) (hst : (st.map fun v => v.category).sum ≤ 8) (kk : Wp G d mt E pc' ls (.int (if y < x then y else x) :: st) h) : Wp G d mt E pc ls (.int y :: .int x :: st) h := by
  subst hp
  intro hO p e s m args below meth c H locs lsC X hP hS hl
  have hws := fun w q => X.2.2.2.2.1 w (List.mem_cons_of_mem _ q)
  have hst2 : ((st.map (kc G)).map fun v => v.category).sum = (st.map fun v => v.category).sum := by
    congr 1
    rw [List.map_map]
    exact List.map_congr_left (fun v _ => kc_cat G v)
  exact va_mmin X.1 X.2.1 (by rw [X.2.2.1, hl.1]) X.2.2.2.1 (hws _ hw.1) (hws _ hw.2.1) (hws _ hw.2.2.1) (hws _ hw.2.2.2) (by have := hO.1; omega) (by have := hO.2.1; rw [hst2]; omega) hO.2.2.1 hO.2.2.2 hd (kk hO p e s m args below meth c H locs lsC X hP hS hl)
