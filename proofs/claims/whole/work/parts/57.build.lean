/-! constructors: worlds that grow -/
section Build
/-- launch, class and slot numbers, the classes of int[], Sheet[], int[][], the address of the text "hwm" -/
abbrev bJ : Type := Launch × va_G × ClassId × ClassId × ClassId × Nat
abbrev bD (J : bJ) : va_G := J.2.1
abbrev bT (J : bJ) : List (ClassId × FieldType) := [(J.2.2.1, .int), (J.2.2.2.1, .object RX4), (J.2.2.2.2.1, .array .int)]
def bK (J : bJ) (U : State) : Prop := va_K (bD J) vwCl (bT J) U ∧ (∀ w ∈ kNest, va_Nw w U) ∧ vk_R RX1 22 "hwm" J.2.2.2.2.2 U ∧ va_AO RX4 U ∧ mqAO U
theorem bK.warm {J : bJ} {s U : State} (hW : s.WarmedH U.vm) (h : bK J s) : bK J U :=
  ⟨va_K.moved hW.alike h.1, fun w hw => kNest_warm hW hw (h.2.1 w hw), vk_R.warm hW h.2.2.1, h.2.2.2.1.moved hW.alike, h.2.2.2.2.moved hW.alike⟩
theorem bK.same {J : bJ} {s U : State} (hv : U.vm = s.vm) (h : bK J s) : bK J U := by
  have ha : s.vm.Alike U.vm := by rw [hv]; exact Vm.Alike.refl s.vm
  exact ⟨va_K.moved ha h.1, fun w hw => by
    have h2 := (List.mem_filter.mp hw).2
    cases w <;> first | exact va_Nw.same rfl hv.symm (h.2.1 _ hw) | (simp at h2), vk_R.same hv h.2.2.1, h.2.2.2.1.moved ha, h.2.2.2.2.moved ha⟩
/-- room, what it may change, what is known of the start, the end -/
abbrev bE : Type := Room × (State → Nat → Prop) × (State → Prop) × (List Frame → Array Value → State → State → Prop)
def bX (J : bJ) (mt : kMt) (E : bE) (p : Program) (s : State) (m : MethodId) (args : Array Value) (meth : Method) (c : Code) : Prop :=
  p.tables.exec = Jvm.exec ∧ c.code = mt.2.1 ∧ c.maxLocals = mt.2.2.1 ∧ s.vm.findClass mt.1.cls = some m.cls ∧ (∀ w ∈ kws mt, w.before args s = true) ∧ meth.locks = false ∧ meth.sig.returnType = mt.2.2.2 ∧ bK J s ∧ (∀ q, s.heap.size ≤ q → E.2.1 s q) ∧ (mt.1.name = "<init>" → meth.name = "<init>") ∧ E.2.2.1 s
/-- at pc, with these locals, this stack, this world, n cells of k slots made: it comes to the end -/
def Bp (J : bJ) (mt : kMt) (E : bE) (pc : Nat) (ls : List (Nat × Value)) (st : List Value) (ws : va_W) (n k : Nat) : Prop :=
  ∀ (p : Program) (e : Env) (s : State) (m : MethodId) (args : Array Value) (below : List Frame) (meth : Method) (c : Code) (H : Heap) (locs : List Loc) (lsC : Array Slot),
    bX J mt E p s m args meth c → va_P (bD J) vwCl ws H → va_D (E.2.1 s) ws → va_S (E.2.1 s) s.heap H locs → lv_has lsC mt.2.2.1 ls →
    W p J.1 e E.1 s m args below meth c H locs n k (E.2.2.2 below args s) (F0 m pc lsC st)
/-- a constructor's contract: the object at a, the default in its cell; it makes n cells of k slots; then the world is 'out u', with the object at 'top u' -/
def bF (a sz : Nat) : Nat → Prop := fun q => q = a ∨ sz ≤ q
def bQ {S : Type} (J : bJ) (top : S → Nat) (out : S → va_W) (a sz : Nat) : Array Value → State → Outcome → State → Prop :=
  va_Qv (fun u : S => top u = a) (fun u t => va_P (bD J) vwCl (out u) t.heap ∧ va_D (bF a sz) (out u)) (bF a sz)
def bR (d n k : Nat) : Room := { frames := d, cells := n, slots := k, locals := 64 * d }
def bPc (J : bJ) (a sz : Nat) (e0 : va_E) : Array Value → State → Prop := va_Pc [.ref a] (fun U => U.heap.size = sz ∧ va_P (bD J) vwCl [(a, e0)] U.heap ∧ bK J U)
def Mk {S : Type} (J : bJ) (d n k : Nat) (mt : kMt) (e0 : va_E) (top : S → Nat) (out : S → va_W) : Prop :=
  ∀ a sz : Nat, Met J.1 mt.1 (kws mt) (bR d n k) (bPc J a sz e0) (bQ J top out a sz) n k (bF a sz)
def bEo {S : Type} (J : bJ) (d n k a : Nat) (top : S → Nat) (out : S → va_W) : bE :=
  (bR d n k, fun s => bF a s.heap.size, fun _ => True, fun below args s => MQ below (bQ J top out a s.heap.size) args s n k (bF a s.heap.size))
theorem bD1 {a sz : Nat} {e0 : va_E} : va_D (bF a sz) [(a, e0)] := by
  refine ⟨fun i j p q hp hq _ => ?_, fun k q hq => ?_⟩
  · have h1 := (List.getElem?_eq_some_iff.mp hp).1
    have h2 := (List.getElem?_eq_some_iff.mp hq).1
    have h3 : i < 1 := h1
    have h4 : j < 1 := h2
    omega
  · have h1 : k < 1 := (List.getElem?_eq_some_iff.mp hq).1
    rw [show k = 0 by omega] at hq
    cases hq
    exact Or.inl rfl
theorem Mk.of {S : Type} {J : bJ} {d n k : Nat} {mt : kMt} {e0 : va_E} {top : S → Nat} {out : S → va_W} (hy : plainName mt.1.cls = true) (hn : 1 ≤ mt.2.2.1) (hname : mt.1.name = "<init>")
    (w : ∀ a, Bp J mt (bEo J d n k a top out) 0 [(0, .ref a)] [] [(a, e0)] 0 0) : Mk J d n k mt e0 top out := by
  intro a sz
  refine Met.ofW (cc := mt.2.1) (maxL := mt.2.2.1) (ret := mt.2.2.2) hy rfl ?_
  intro p e s m args below meth c s₁ B hml hv
  obtain ⟨rfl, hsz, hP, hK⟩ := hv
  subst hsz
  have hl0 := lv_entry [.ref a] (n := mt.2.2.1) hn
  rw [lg_entry_eq]
  generalize (lg_sl [Value.ref a] ++ List.replicate (mt.2.2.1 - (lg_sl [Value.ref a]).length) Slot.unset).toArray = lsC at hl0 ⊢
  exact w a p e s m _ below meth c s.heap [] lsC ⟨B.exec, B.bytes, hml, findClass_of_methodNamed B.named, atoms_spec (ws := kws mt) B.pre, B.notSynchronized, B.returns, hK, fun q h => Or.inr h, fun _ => (name_of_methodNamed B.named B.method).1.trans hname, trivial⟩ hP bD1 va_S.rf hl0
/-- behind a constructor: what it made, beside the rest -/
theorem b_join {A0 : Nat → Prop} {D : va_G} {cl : List vw_C} {ws w1 : va_W} {H H1 : Heap} {a : Nat} {e0 : va_E} (hP : va_P D cl (ws ++ [(a, e0)]) H) (hD : va_D A0 (ws ++ [(a, e0)]))
    (hk : ∀ q : Nat, q < H.size → ¬ bF a H.size q → H1[q]? = H[q]?) (hF : ∀ q, bF a H.size q → A0 q) (hP1 : va_P D cl w1 H1) (hD1 : va_D (bF a H.size) w1) : va_P D cl (ws ++ w1) H1 ∧ va_D A0 (ws ++ w1) := by
  have left : ∀ {i : Nat} {q : Nat × va_E}, ws[i]? = some q → (ws ++ [(a, e0)])[i]? = some q := fun {i q} hq => by
    rw [List.getElem?_append_left (List.getElem?_eq_some_iff.mp hq).1]
    exact hq
  have apart : ∀ (i : Nat) (q : Nat × va_E), ws[i]? = some q → q.1 < H.size ∧ ¬ bF a H.size q.1 := by
    intro i q hq
    have hlt := (hP i q (left hq)).lt
    refine ⟨hlt, fun h => ?_⟩
    rcases h with h | h
    · have hlast : (ws ++ [(a, e0)])[ws.length]? = some (a, e0) := by
        rw [List.getElem?_append_right (Nat.le_refl _), Nat.sub_self]
        rfl
      have h2 := hD.1 i ws.length q (a, e0) (left hq) hlast h
      have h3 := (List.getElem?_eq_some_iff.mp hq).1
      omega
    · omega
  refine ⟨va_P.app (fun i q hq => (hP i q (left hq)).kept (hk q.1 (apart i q hq).1 (apart i q hq).2)) hP1, va_D.app ⟨fun i j p q hp hq => hD.1 i j p q (left hp) (left hq), fun i q hq => hD.2 i q (left hq)⟩ (hD1.weaken (fun i q _ h => hF q.1 h)) (fun i j x y hx hy hxy => ?_)⟩
  exact (apart i x hx).2 (by rw [hxy]; exact hD1.2 j y hy)
variable {J : bJ} {mt : kMt} {E : bE} {pc : Nat} {ls : List (Nat × Value)} {st : List Value} {ws : va_W} {n k : Nat}
theorem b_aload {x : Nat} {q : Fin 4} (i pc' : Nat) (hd : decode mt.2.1 pc = .ok (.aload_n q, 1)) (hp : pc + 1 = pc') (hi : ls[i]? = some ((q : Nat), .ref x)) (kk : Bp J mt E pc' ls (.ref x :: st) ws n k) : Bp J mt E pc ls st ws n k := by
  subst hp
  intro p e s m args below meth c H locs lsC X hP hD hS hl
  exact lv_aload_n X.1 X.2.1 hd rfl (lv_at hl i hi) (kk p e s m args below meth c H locs lsC X hP hD hS hl)
theorem b_iload {x : Int32} {q : Fin 4} (i pc' : Nat) (hd : decode mt.2.1 pc = .ok (.iload_n q, 1)) (hp : pc + 1 = pc') (hi : ls[i]? = some ((q : Nat), .int x)) (kk : Bp J mt E pc' ls (.int x :: st) ws n k) : Bp J mt E pc ls st ws n k := by
  subst hp
  intro p e s m args below meth c H locs lsC X hP hD hS hl
  exact lv_iload_n X.1 X.2.1 hd rfl (lv_at hl i hi) (kk p e s m args below meth c H locs lsC X hP hD hS hl)
theorem b_astore {x : Nat} {q : Fin 4} (ls' : List (Nat × Value)) (pc' : Nat) (hd : decode mt.2.1 pc = .ok (.astore_n q, 1)) (hp : pc + 1 = pc') (hn : (q : Nat) < mt.2.2.1) (hl' : ((q : Nat), Value.ref x) :: ls.filter (fun z => !(z.1 == (q : Nat)) && !(z.1 + 1 == (q : Nat) && z.2.category == 2)) = ls') (kk : Bp J mt E pc' ls' st ws n k) : Bp J mt E pc ls (.ref x :: st) ws n k := by
  subst hp
  intro p e s m args below meth c H locs lsC X hP hD hS hl
  exact lv_astore_n (x := x) X.1 X.2.1 hd rfl hl hn hl' (fun lsN hlN => kk p e s m args below meth c H locs lsN X hP hD hS hlN)
theorem b_istore {x : Int32} {q : Fin 4} (ls' : List (Nat × Value)) (pc' : Nat) (hd : decode mt.2.1 pc = .ok (.istore_n q, 1)) (hp : pc + 1 = pc') (hn : (q : Nat) < mt.2.2.1) (hl' : ((q : Nat), Value.int x) :: ls.filter (fun z => !(z.1 == (q : Nat)) && !(z.1 + 1 == (q : Nat) && z.2.category == 2)) = ls') (kk : Bp J mt E pc' ls' st ws n k) : Bp J mt E pc ls (.int x :: st) ws n k := by
  subst hp
  intro p e s m args below meth c H locs lsC X hP hD hS hl
  exact lv_istore_n (x := x) X.1 X.2.1 hd rfl hl hn hl' (fun lsN hlN => kk p e s m args below meth c H locs lsN X hP hD hS hlN)
theorem b_iinc {i j : Nat} {z : Int} {x v : Int32} (ls' : List (Nat × Value)) (pc' : Nat) (hd : decode mt.2.1 pc = .ok (.iinc i z, 3)) (hp : pc + 3 = pc') (hj : ls[j]? = some (i, .int x)) (hv : x + Int32.ofInt z = v) (hn : i < mt.2.2.1) (hl' : (i, Value.int v) :: ls.filter (fun q => !(q.1 == i) && !(q.1 + 1 == i && q.2.category == 2)) = ls') (kk : Bp J mt E pc' ls' st ws n k) : Bp J mt E pc ls st ws n k := by
  subst hp
  intro p e s m args below meth c H locs lsC X hP hD hS hl
  exact lv_iinc (k := j) X.1 X.2.1 hd hl hj hv hn hl' (fun lsN hlN => kk p e s m args below meth c H locs lsN X hP hD hS hlN)
theorem b_iconst {z : Int} (v : Int32) (pc' : Nat) (hd : decode mt.2.1 pc = .ok (.iconst z, 1)) (hv : Int32.ofInt z = v) (hp : pc + 1 = pc') (kk : Bp J mt E pc' ls (.int v :: st) ws n k) : Bp J mt E pc ls st ws n k := by
  subst hp
  intro p e s m args below meth c H locs lsC X hP hD hS hl
  exact lv_iconst X.1 X.2.1 hd hv (kk p e s m args below meth c H locs lsC X hP hD hS hl)
theorem b_bipush {z : Int} (v : Int32) (pc' : Nat) (hd : decode mt.2.1 pc = .ok (.bipush z, 2)) (hv : (Int8.ofInt z).toInt32 = v) (hp : pc + 2 = pc') (kk : Bp J mt E pc' ls (.int v :: st) ws n k) : Bp J mt E pc ls st ws n k := by
  subst hp
  intro p e s m args below meth c H locs lsC X hP hD hS hl
  exact lv_bipush X.1 X.2.1 hd hv (kk p e s m args below meth c H locs lsC X hP hD hS hl)
theorem b_sipush {z : Int} (v : Int32) (pc' : Nat) (hd : decode mt.2.1 pc = .ok (.sipush z, 3)) (hv : (Int16.ofInt z).toInt32 = v) (hp : pc + 3 = pc') (kk : Bp J mt E pc' ls (.int v :: st) ws n k) : Bp J mt E pc ls st ws n k := by
  subst hp
  intro p e s m args below meth c H locs lsC X hP hD hS hl
  exact lv_sipush X.1 X.2.1 hd hv (kk p e s m args below meth c H locs lsC X hP hD hS hl)
theorem b_dup {x : Nat} (pc' : Nat) (hd : decode mt.2.1 pc = .ok (.dup, 1)) (hp : pc + 1 = pc') (kk : Bp J mt E pc' ls (.ref x :: .ref x :: st) ws n k) : Bp J mt E pc ls (.ref x :: st) ws n k := by
  subst hp
  intro p e s m args below meth c H locs lsC X hP hD hS hl
  exact lv_dup X.1 X.2.1 hd rfl (kk p e s m args below meth c H locs lsC X hP hD hS hl)
theorem b_goto {off : Int} (tgt : Nat) (hd : decode mt.2.1 pc = .ok (.goto off, 3)) (ht : (pc : Int) + off = (tgt : Int)) (kk : Bp J mt E tgt ls st ws n k) : Bp J mt E pc ls st ws n k := by
  intro p e s m args below meth c H locs lsC X hP hD hS hl
  exact lv_goto X.1 X.2.1 hd ht (kk p e s m args below meth c H locs lsC X hP hD hS hl)
theorem b_ge {x y : Int32} {off : Int} (tgt pc' : Nat) (hd : decode mt.2.1 pc = .ok (.if_icmp .ge off, 3)) (ht : (pc : Int) + off = (tgt : Int)) (hp : pc + 3 = pc') (kk : (y ≤ x → Bp J mt E tgt ls st ws n k) ∧ (¬ (y ≤ x) → Bp J mt E pc' ls st ws n k)) : Bp J mt E pc ls (.int y :: .int x :: st) ws n k := by
  subst hp
  intro p e s m args below meth c H locs lsC X hP hD hS hl
  exact lv_icmp_ge X.1 X.2.1 hd ht (fun q => kk.1 q p e s m args below meth c H locs lsC X hP hD hS hl) (fun q => kk.2 q p e s m args below meth c H locs lsC X hP hD hS hl)
theorem b_show (ws' : va_W) (h : ws = ws') (kk : Bp J mt E pc ls st ws' n k) : Bp J mt E pc ls st ws n k := by
  subst h
  exact kk
/-- Object's constructor -/
theorem b_obj {idx a : Nat} (pc' : Nat) (hd : decode mt.2.1 pc = .ok (.invokespecial idx, 3)) (hp : pc + 3 = pc') (hw : Cond.methodLink mt.1.cls idx objectInit ∈ TW ∧ Cond.instanceMethod objectInit ∈ TW ∧ Cond.code objectInit ⟨#[0xb1]⟩ 1 none ∈ TW) (hR : 1 ≤ E.1.frames ∧ 12 ≤ E.1.locals) (kk : Bp J mt E pc' ls [] ws n k) : Bp J mt E pc ls [.ref a] ws n k := by
  subst hp
  intro p e s m args below meth c H locs lsC X hP hD hS hl
  have hts := fun w q => X.2.2.2.2.1 w (List.mem_cons_of_mem _ q)
  exact W.objInit X.1 X.2.1 X.2.2.2.1 (hts _ hw.1) (hts _ hw.2.1) (hts _ hw.2.2) rfl (by rw [X.2.2.1]; exact hl.1) rfl hd hR.1 hR.2 (kk p e s m args below meth c H locs lsC X hP hD hS hl)
theorem b_newI {x : Int32} (N pc' : Nat) (hd : decode mt.2.1 pc = .ok (.newarray .int, 2)) (hp : pc + 2 = pc') (hw : Cond.arrayClass .int ∈ TW) (hx : ¬ x < 0) (hN : x.toNatClampNeg = N) (h4 : N * 4 ≤ 536870912) (hc : n + 1 ≤ E.1.cells) (hs : k + N ≤ E.1.slots)
    (kk : ∀ q, Bp J mt E pc' ls (.ref q :: st) (ws ++ [(q, .inl (J.2.2.1, N, .inl (fun _ => 0)))]) (n + 1) (k + N)) : Bp J mt E pc ls (.int x :: st) ws n k := by
  subst hp
  intro p e s m args below meth c H locs lsC X hP hD hS hl
  have hts := fun w q => X.2.2.2.2.1 w (List.mem_cons_of_mem _ q)
  exact kNewI X.1 X.2.1 (hts _ hw) X.2.2.2.2.2.2.2.1.1 hP hD hS X.2.2.2.2.2.2.2.2.1 0 rfl hx hN h4 hc hs hd (fun q H1 hP1 hD1 hS1 => kk q p e s m args below meth c H1 locs lsC X hP1 hD1 hS1 hl)
/-- the Sheets' array, of the one class of such arrays -/
theorem b_newS {x : Int32} {idx : Nat} (N pc' : Nat) (hd : decode mt.2.1 pc = .ok (.anewarray idx, 3)) (hp : pc + 3 = pc') (hw : Cond.classLink mt.1.cls idx RX4 ∈ TW) (hx : ¬ x < 0) (hN : x.toNatClampNeg = N) (h4 : N * 4 ≤ 536870912) (hc : n + 1 ≤ E.1.cells) (hs : k + N ≤ E.1.slots)
    (kk : ∀ q, Bp J mt E pc' ls (.ref q :: st) (ws ++ [(q, .inl (J.2.2.2.1, N, .inr (.inr (.inr (.inr (fun _ => none))))))]) (n + 1) (k + N)) : Bp J mt E pc ls (.int x :: st) ws n k := by
  subst hp
  intro p e s m args below meth c H locs lsC X hP hD hS hl
  have hts := fun w q => X.2.2.2.2.1 w (List.mem_cons_of_mem _ q)
  have hK := X.2.2.2.2.2.2.2.1
  refine va_newq X.1 X.2.1 X.2.2.2.1 (hts _ hw) hK.2.2.2.1 hK.1 hP hD hS X.2.2.2.2.2.2.2.2.1 hx hN h4 hc hs hd (fun q cA H1 hK1 hP1 hD1 hS1 => ?_)
  have ht2 : (bT J ++ [(cA, FieldType.object RX4)])[(bT J).length]? = some (cA, .object RX4) := rfl
  obtain ⟨k1, c1, -, -, -, e1⟩ := (hK.1.2 1 _ rfl).2
  obtain ⟨k2, c2, -, -, -, e2⟩ := (hK1.2 _ _ ht2).2
  have e3 : cA = J.2.2.2.1 := Option.some.inj (e2.symm.trans e1)
  subst e3
  exact kk q p e s m args below meth c H1 locs lsC X hP1 hD1 hS1 hl
/-- the courses -/
theorem b_newC {idx : Nat} (pc' : Nat) (hd : decode mt.2.1 pc = .ok (.multianewarray idx 2, 4)) (hp : pc + 4 = pc') (hw : Cond.classLink mt.1.cls idx ("[" ++ (FieldType.array .int).toString) ∈ TW ∧ Cond.arrayClass .int ∈ TW) (hc : n + 26 ≤ E.1.cells) (hs : k + 150 ≤ E.1.slots)
    (kk : ∀ b, Bp J mt E pc' ls (.ref b :: st) (ws ++ (b, .inl (J.2.2.2.2.1, 25, .inr (.inr (.inr (.inr (fun i => some (b + 1 + i))))))) :: (List.range 25).map (fun i => (b + 1 + i, .inl (J.2.2.1, 5, .inl (fun _ => 0))))) (n + 26) (k + 150)) : Bp J mt E pc ls (.int 5 :: .int 25 :: st) ws n k := by
  subst hp
  intro p e s m args below meth c H locs lsC X hP hD hS hl
  have hts := fun w q => X.2.2.2.2.1 w (List.mem_cons_of_mem _ q)
  have hK := X.2.2.2.2.2.2.2.1
  have hA := X.2.2.2.2.2.2.2.2.1
  refine mq_W X.1 X.2.1 X.2.2.2.1 (hts _ hw.1) hK.2.2.2.2 (hts _ hw.2) hd hS.1 hc hs (fun cA cI H1 e1 e2 z1 o1 r1 old => ?_)
  have f1 : cA = J.2.2.2.2.1 := Option.some.inj (e1.symm.trans (hK.1.2 2 _ rfl).2)
  have f2 : cI = J.2.2.1 := Option.some.inj (e2.symm.trans (hK.1.2 0 _ rfl).2)
  subst f1
  subst f2
  have hold : ∀ (i : Nat) (x : Nat × va_E), ws[i]? = some x → H1[x.1]? = H[x.1]? := fun i x hx => old x.1 ((hP i x hx).lt)
  have hnew : ∀ (i : Nat) (x : Nat × va_E), ((H.size, (Sum.inl (J.2.2.2.2.1, 25, .inr (.inr (.inr (.inr (fun i => some (H.size + 1 + i)))))) : va_E)) :: (List.range 25).map (fun i => (H.size + 1 + i, (Sum.inl (J.2.2.1, 5, .inl (fun _ => 0)) : va_E))))[i]? = some x → x.1 = H.size + i ∧ va_at (bD J) vwCl x H1 := by
    intro i x hx
    cases i with
    | zero =>
      cases hx
      refine ⟨rfl, ?_⟩
      show H1[H.size]? = some (vp_cell _ _)
      rw [o1, vp_cell_q]
      unfold mqO arrV
      congr 2
    | succ i =>
      rw [List.getElem?_cons_succ, List.getElem?_map] at hx
      have hi : i < 25 := by
        by_cases h : i < 25
        · exact h
        · rw [List.getElem?_eq_none (by simpa using h)] at hx
          cases hx
      rw [List.getElem?_range hi] at hx
      cases hx
      exact ⟨by show H.size + 1 + i = H.size + (i + 1); omega, r1 i hi⟩
  refine kk H.size p e s m args below meth c H1 locs lsC X ((hP.kept hold).app (fun i x hx => (hnew i x hx).2)) (va_D.app hD ⟨fun i j x y hx hy hxy => ?_, fun i x hx => ?_⟩ (fun i j x y hx hy hxy => ?_)) ⟨Nat.le_trans hS.1 (by omega), fun x h1 h2 => (old x (Nat.lt_of_lt_of_le h1 hS.1)).trans (hS.2.1 x h1 h2), hS.2.2⟩ hl
  · have h1 := (hnew i x hx).1
    have h2 := (hnew j y hy).1
    omega
  · have h1 := (hnew i x hx).1
    exact hA _ (by have := hS.1; omega)
  · have h1 := (hP i x hx).lt
    have h2 := (hnew j y hy).1
    omega
def kLI (own : String) (idx : Nat) (mt' : kMt) (host : String) : Prop := Cond.methodLinkNest own idx mt'.1 host ∈ kNest ∧ Cond.instanceMethod mt'.1 ∈ TW ∧ Cond.initialized mt'.1.cls ∈ TW ∧ Cond.code mt'.1 mt'.2.1 mt'.2.2.1 mt'.2.2.2 ∈ TW ∧ mt'.1.name = "<init>" ∧ (mt'.1.cls ≠ "java/lang/invoke/MethodHandle" ∧ mt'.1.cls ≠ "java/lang/invoke/VarHandle" ∧ (parseMethodDescriptor mt'.1.desc).map (fun d => d.parameters.length) = some 0)
def kLJ (own : String) (idx : Nat) (mt' : kMt) : Prop := Cond.methodLink own idx mt'.1 ∈ TW ∧ Cond.instanceMethod mt'.1 ∈ TW ∧ Cond.initialized mt'.1.cls ∈ TW ∧ Cond.code mt'.1 mt'.2.1 mt'.2.2.1 mt'.2.2.2 ∈ TW ∧ mt'.1.name = "<init>" ∧ (mt'.1.cls ≠ "java/lang/invoke/MethodHandle" ∧ mt'.1.cls ≠ "java/lang/invoke/VarHandle" ∧ (parseMethodDescriptor mt'.1.desc).map (fun d => d.parameters.length) = some 0)
def kFf (ci j : Nat) (own : String) : Prop := ∀ q : vw_C, vwCl[ci]? = some q → (q.2.1 j).2.2.2 = true ∧ (q.2.1 j).1 = own
theorem b_putF {idx ci j a : Nat} {ty : FieldType} {v : Value} {fs : List Value} (ws' : va_W) (pc' : Nat) (hd : decode mt.2.1 pc = .ok (.putfield idx, 3)) (hp : pc + 3 = pc') (hf : kFL mt.1.cls idx ci j ty) (hfi : kFf ci j mt.1.cls) (hname : mt.1.name = "<init>") (hw : ws[0]? = some (a, .inr (ci, fs))) (hws : ws.set 0 (a, .inr (ci, fs.set j v)) = ws') (hnar : narrow ty v = v) (hfit : fits ty v = true) (hlen : j < fs.length) (kk : Bp J mt E pc' ls st ws' n k) : Bp J mt E pc ls (v :: .ref a :: st) ws n k := by
  subst hp
  subst hws
  intro p e s m args below meth c H locs lsC X hP hD hS hl
  obtain ⟨C, T, N, ts, h1, h2, h3, h4, h5, h6, h7⟩ := hf
  have hts := fun w q => X.2.2.2.2.1 w (List.mem_cons_of_mem _ q)
  exact va_putF X.1 X.2.1 (Ts := TW) hts h2 ts h6 h7 X.2.2.2.1 X.2.2.2.2.2.2.2.1.1 hP hD hS 0 hw h1 j h3 (hts _ h4) (fun _ q => q) (hfi _ h1).1 (X.2.2.2.2.2.2.2.2.2.1 hname) (hfi _ h1).2 h5 hnar hfit hlen hd (fun H1 locs1 hP1 hD1 hS1 => kk p e s m args below meth c H1 locs1 lsC X hP1 hD1 hS1 hl)
theorem b_put {idx ci j a : Nat} {ty : FieldType} {v : Value} {fs : List Value} (ws' : va_W) (pc' : Nat) (hd : decode mt.2.1 pc = .ok (.putfield idx, 3)) (hp : pc + 3 = pc') (hf : kFL mt.1.cls idx ci j ty) (hfi : kFin ci j) (hw : ws[0]? = some (a, .inr (ci, fs))) (hws : ws.set 0 (a, .inr (ci, fs.set j v)) = ws') (hnar : narrow ty v = v) (hfit : fits ty v = true) (hlen : j < fs.length) (kk : Bp J mt E pc' ls st ws' n k) : Bp J mt E pc ls (v :: .ref a :: st) ws n k := by
  subst hp
  subst hws
  intro p e s m args below meth c H locs lsC X hP hD hS hl
  obtain ⟨C, T, N, ts, h1, h2, h3, h4, h5, h6, h7⟩ := hf
  have hts := fun w q => X.2.2.2.2.1 w (List.mem_cons_of_mem _ q)
  exact va_put X.1 X.2.1 (Ts := TW) hts h2 ts h6 h7 X.2.2.2.1 X.2.2.2.2.2.2.2.1.1 hP hD hS 0 hw h1 j h3 (hts _ h4) (fun _ q => q) (hfi _ h1) h5 hnar hfit hlen hd (fun H1 locs1 hP1 hD1 hS1 => kk p e s m args below meth c H1 locs1 lsC X hP1 hD1 hS1 hl)
theorem b_get {idx ci j a : Nat} {ty : FieldType} {v : Value} {fs : List Value} (pc' : Nat) (hd : decode mt.2.1 pc = .ok (.getfield idx, 3)) (hp : pc + 3 = pc') (hf : kFL mt.1.cls idx ci j ty) (hw : ws[0]? = some (a, .inr (ci, fs))) (hv : fs[j]? = some v) (kk : Bp J mt E pc' ls (v :: st) ws n k) : Bp J mt E pc ls (.ref a :: st) ws n k := by
  subst hp
  intro p e s m args below meth c H locs lsC X hP hD hS hl
  obtain ⟨C, T, N, ts, h1, h2, h3, h4, h5, h6, h7⟩ := hf
  have hts := fun w q => X.2.2.2.2.1 w (List.mem_cons_of_mem _ q)
  exact va_get X.1 X.2.1 (Ts := TW) hts h2 X.2.2.2.1 X.2.2.2.2.2.2.2.1.1 hP 0 hw h1 j h3 (hts _ h4) (fun _ q => q) (v := v) hv hd (kk p e s m args below meth c H locs lsC X hP hD hS hl)
theorem b_iast {i x : Int32} {a N : Nat} {f : Nat → Int32} (q0 : Nat) (ws' : va_W) (pc' : Nat) (hd : decode mt.2.1 pc = .ok (.iastore, 1)) (hp : pc + 1 = pc') (hw : ws[q0]? = some (a, .inl (J.2.2.1, N, .inl f))) (hin : vp_in i N) (hws : ws.set q0 (a, .inl (J.2.2.1, N, .inl (upd f i.toNatClampNeg x))) = ws') (kk : Bp J mt E pc' ls st ws' n k) : Bp J mt E pc ls (.int x :: .int i :: .ref a :: st) ws n k := by
  subst hp
  subst hws
  intro p e s m args below meth c H locs lsC X hP hD hS hl
  exact va_iast X.1 X.2.1 X.2.2.2.2.2.2.2.1.1 hP hD hS q0 0 hw rfl hin hd (fun H1 locs1 hP1 hD1 hS1 => kk p e s m args below meth c H1 locs1 lsC X hP1 hD1 hS1 hl)
theorem b_aast {i : Int32} {a N v : Nat} {f : Nat → Option Nat} {vs : List Value} (z q0 qk : Nat) (ws' : va_W) (pc' : Nat) (hd : decode mt.2.1 pc = .ok (.aastore, 1)) (hp : pc + 1 = pc') (hw : ws[q0]? = some (a, .inl (J.2.2.2.1, N, .inr (.inr (.inr (.inr f)))))) (hv : ws[qk]? = some (v, .inr (4, vs))) (hin : vp_in i N) (hz : i.toNatClampNeg = z) (hws : ws.set q0 (a, .inl (J.2.2.2.1, N, .inr (.inr (.inr (.inr (va_up f z (some v))))))) = ws') (kk : Bp J mt E pc' ls st ws' n k) : Bp J mt E pc ls (.ref v :: .int i :: .ref a :: st) ws n k := by
  subst hp
  subst hws
  subst hz
  intro p e s m args below meth c H locs lsC X hP hD hS hl
  exact va_astq X.1 X.2.1 X.2.2.2.2.2.2.2.1.1 hP hD hS q0 1 qk 4 hw rfl hv rfl hin hd (fun H1 locs1 hP1 hD1 hS1 => kk p e s m args below meth c H1 locs1 lsC X hP1 hD1 hS1 hl)
theorem b_ldc {st' : List Value} (pc' : Nat) (hd : decode mt.2.1 pc = .ok (.ldc 22, 2)) (hp : pc + 2 = pc') (hc : mt.1.cls = RX1) (kk : Bp J mt E pc' ls (.ref J.2.2.2.2.2 :: st) ws n k) : Bp J mt E pc ls st ws n k := by
  subst hp
  intro p e s m args below meth c H locs lsC X hP hD hS hl
  have ho := X.2.2.2.1
  rw [hc] at ho
  exact va_ldcS X.1 X.2.1 ho X.2.2.2.2.2.2.2.1.2.2.1 hd (kk p e s m args below meth c H locs lsC X hP hD hS hl)
theorem b_new {idx ci N : Nat} {C : String} {T : u_T} {ts : Nat → FieldType} (fs : List Value) (pc' : Nat) (hd : decode mt.2.1 pc = .ok (.new idx, 3)) (hp : pc + 3 = pc') (hc : vwCl[ci]? = some (C, T, N)) (hin : ∀ w ∈ u_ws C T N, w ∈ TW) (hty : ∀ j, j < N → parseFieldDescriptor (T j).2.2.1 = some (ts j)) (hw : Cond.classLink mt.1.cls idx C ∈ TW ∧ Cond.instantiable C N ∈ TW ∧ Cond.initialized C ∈ TW) (hfs : ∀ j, j < N → defaultValue (ts j) = vp_V fs j) (hcc : n + 1 ≤ E.1.cells) (hss : k + N ≤ E.1.slots)
    (kk : ∀ q, Bp J mt E pc' ls (.ref q :: st) (ws ++ [(q, .inr (ci, fs))]) (n + 1) (k + N)) : Bp J mt E pc ls st ws n k := by
  subst hp
  intro p e s m args below meth c H locs lsC X hP hD hS hl
  have hts := fun w q => X.2.2.2.2.1 w (List.mem_cons_of_mem _ q)
  exact va_new X.1 X.2.1 (Ts := TW) hts hin ts hty X.2.2.2.1 (hts _ hw.1) (hts _ hw.2.1) (hts _ hw.2.2) X.2.2.2.2.2.2.2.1.1 hP hD hS X.2.2.2.2.2.2.2.2.1 hc hfs hcc hss hd (fun q H1 hP1 hD1 hS1 => kk q p e s m args below meth c H1 locs lsC X hP1 hD1 hS1 hl)
theorem bPc_blind {a sz : Nat} {e0 : va_E} : FrameBlind (bPc J a sz e0) := by
  rintro v U g mk ⟨h1, h2, h3, h4⟩
  exact ⟨h1, h2, h3, bK.same (s := U) (U := U.calling g mk v) rfl h4⟩
section Behind
variable {S : Type} {top : S → Nat} {out : S → va_W} {mt' : kMt} {d' n' k' a idx : Nat} {e0 : va_E}
/-- behind the run of a constructor -/
theorem b_behind {p : Program} {e : Env} {s : State} {m : MethodId} {args v : Array Value} {below : List Frame} {meth : Method} {c : Code} {H : Heap} {locs : List Loc} {lsC : Array Slot} (X : bX J mt E p s m args meth c) (hP : va_P (bD J) vwCl (ws ++ [(a, e0)]) H) (hD : va_D (E.2.1 s) (ws ++ [(a, e0)])) (hS : va_S (E.2.1 s) s.heap H locs) (hl : lv_has lsC mt.2.2.1 ls)
    (hr : va_Run p J.1 e E.1 s m args below meth c H locs n k n' k' (F0 m pc lsC (.ref a :: st)) st (bQ J top out a H.size v) (bF a H.size))
    (kk : ∀ u : S, top u = a → Bp J mt E (pc + 3) ls st (ws ++ out u) (n + n') (k + k')) : W p J.1 e E.1 s m args below meth c H locs n k (E.2.2.2 below args s) (F0 m pc lsC (.ref a :: st)) := by
  have hF : ∀ q, bF a H.size q → E.2.1 s q := by
    rintro q (rfl | h)
    · have hlast : (ws ++ [(q, e0)])[ws.length]? = some (q, e0) := by
        rw [List.getElem?_append_right (Nat.le_refl _), Nat.sub_self]
        rfl
      exact hD.2 _ _ hlast
    · exact X.2.2.2.2.2.2.2.2.1 q (Nat.le_trans hS.1 h)
  refine va_callv hr hS (fun q _ h => hF q h) hF (fun u t H1 locs1 ht hvm hu hB hz1 hk1 hS1 => ?_)
  obtain ⟨hP1, hD1⟩ := hB
  rw [ht] at hP1
  obtain ⟨hP2, hD2⟩ := b_join hP hD hk1 hF hP1 hD1
  exact kk u hu p e s m args below meth c H1 locs1 lsC X hP2 hD2 hS1 hl
theorem b_pre {s : State} {H : Heap} {locs : List Loc} {A : Nat → Prop} (hK : bK J s) (hP : va_P (bD J) vwCl (ws ++ [(a, e0)]) H) (U : State) (hU : U.heap = H) (hW : s.WarmedH U.vm) : bPc J a H.size e0 [Value.ref a].toArray U := by
  refine ⟨rfl, by rw [hU], ?_, hK.warm hW⟩
  rw [hU]
  intro i q hq
  have h1 : i < 1 := (List.getElem?_eq_some_iff.mp hq).1
  rw [show i = 0 by omega] at hq
  cases hq
  exact hP ws.length _ (by
    rw [List.getElem?_append_right (Nat.le_refl _), Nat.sub_self]
    rfl)
/-- a nest mate's constructor -/
theorem b_make {host : String} (pc' : Nat) (hd : decode mt.2.1 pc = .ok (.invokespecial idx, 3)) (hp : pc + 3 = pc') (hM : Mk J d' n' k' mt' e0 top out) (hret : mt'.2.2.2 = none)
    (hw : kLI mt.1.cls idx mt' host)
    (hR : d' + 1 ≤ E.1.frames ∧ 8 + (mt'.2.2.1 + 11) + 64 * d' ≤ E.1.locals) (hC : n + n' ≤ E.1.cells ∧ k + k' ≤ E.1.slots) (hst : (st.map fun v => v.category).sum ≤ 8)
    (kk : ∀ u : S, top u = a → Bp J mt E pc' ls st (ws ++ out u) (n + n') (k + k')) : Bp J mt E pc ls (.ref a :: st) (ws ++ [(a, e0)]) n k := by
  subst hp
  intro p e s m args below meth c H locs lsC X hP hD hS hl
  obtain ⟨w1, w2, w3, w4, w5, w6⟩ := hw
  have hts := fun w q => X.2.2.2.2.1 w (List.mem_cons_of_mem _ q)
  have hK := X.2.2.2.2.2.2.2.1
  exact b_behind X hP hD hS hl (va_runIN (host := host) (As := []) (rest := st) (b := a) (n := 0) ⟨X.1, X.2.1, X.2.2.1, X.2.2.2.1, X.2.2.2.2.1⟩ (hM a H.size) ⟨va_cnB 0 X.2.2.2.2.1 (kws_good w4 (fun w q => List.mem_cons_of_mem _ q)) (by unfold kws; rw [hret]) rfl rfl (hK.2.1 _ w1) (hts _ w3) w6 hR, w5, hts _ w2⟩ ⟨bPc_blind, fun U hU hW => b_pre (locs := locs) (A := E.2.1 s) hK hP U hU hW⟩ rfl rfl hl.1 rfl (lv_room hst) hd hC) kk
/-- a constructor that all may call -/
theorem b_makeL (pc' : Nat) (hd : decode mt.2.1 pc = .ok (.invokespecial idx, 3)) (hp : pc + 3 = pc') (hM : Mk J d' n' k' mt' e0 top out) (hret : mt'.2.2.2 = none)
    (hw : kLJ mt.1.cls idx mt')
    (hR : d' + 1 ≤ E.1.frames ∧ 8 + (mt'.2.2.1 + 11) + 64 * d' ≤ E.1.locals) (hC : n + n' ≤ E.1.cells ∧ k + k' ≤ E.1.slots) (hst : (st.map fun v => v.category).sum ≤ 8)
    (kk : ∀ u : S, top u = a → Bp J mt E pc' ls st (ws ++ out u) (n + n') (k + k')) : Bp J mt E pc ls (.ref a :: st) (ws ++ [(a, e0)]) n k := by
  subst hp
  intro p e s m args below meth c H locs lsC X hP hD hS hl
  obtain ⟨w1, w2, w3, w4, w5, w6⟩ := hw
  have hts := fun w q => X.2.2.2.2.1 w (List.mem_cons_of_mem _ q)
  have hK := X.2.2.2.2.2.2.2.1
  exact b_behind X hP hD hS hl (va_runI (As := []) (rest := st) (b := a) (n := 0) ⟨X.1, X.2.1, X.2.2.1, X.2.2.2.1, X.2.2.2.2.1⟩ (hM a H.size) (cwI 0 X.2.2.2.2.1 (kws_good w4 (fun w q => List.mem_cons_of_mem _ q)) (by unfold kws; rw [hret]) rfl rfl (hts _ w3) (hts _ w1) (hts _ w2) w5 w6 hR) ⟨bPc_blind, fun U hU hW => b_pre (locs := locs) (A := E.2.1 s) hK hP U hU hW⟩ rfl rfl hl.1 rfl (lv_room hst) hd hC) kk
/-- a constructor's end -/
theorem b_ret {d N0 K0 a0 : Nat} (u : S) (hd : decode mt.2.1 pc = .ok (.return_, 1)) (hr : mt.2.2.2 = none) (hu : top u = a0) (hw : ws = out u) (hn : n ≤ N0) (hk : k ≤ K0) : Bp J mt (bEo J d N0 K0 a0 top out) pc ls [] ws n k := by
  subst hw
  intro p e s m args below meth c H locs lsC X hP hD hS hl
  refine W.widen hn hk ?_
  exact W.vret X.1 X.2.1 (by rw [X.2.2.2.2.2.2.1, hr]) (fun t ht _ => ⟨⟨u, rfl, hu, by rw [ht]; exact hP, hD⟩, hS.F ht⟩) hS.2.2 hd X.2.2.2.2.2.1
end Behind
end Build

