/-! multianewarray: 25 rows of 5 ints. The heap behind its first i rows. -/
section Multi
def mqO (c : ClassId) (b i : Nat) : Cell := arrV c 25 (fun j => if j < i then .ref (b + 1 + j) else .null)
def mqI (c : ClassId) : Cell := arrV c 5 (fun _ => .int 0)
def mqS (s : State) (cA cI : ClassId) : Nat → State
  | 0 => s.pushCell (mqO cA s.heap.size 0)
  | i + 1 => ((mqS s cA cI i).pushCell (mqI cI)).setCell s.heap.size (mqO cA s.heap.size (i + 1))
theorem mqO_set (c : ClassId) (b i : Nat) : (mqO c b i).setSlot i (.ref (b + 1 + i)) = mqO c b (i + 1) := by
  unfold mqO
  rw [arrV_store]
  congr 1
  funext j
  show (if j = i then _ else (if j < i then _ else _)) = _
  by_cases h : j = i
  · subst h
    rw [if_pos rfl, if_pos (Nat.lt_succ_self j)]
  · rw [if_neg h]
    by_cases h2 : j < i
    · rw [if_pos h2, if_pos (by omega)]
    · rw [if_neg h2, if_neg (by omega)]
theorem mqO_size (c : ClassId) (b i : Nat) : (mqO c b i).slots.size = 25 := arrV_size _ _ _
theorem mqI_size (c : ClassId) : (mqI c).slots.size = 5 := arrV_size _ _ _
theorem mqO_new (c : ClassId) (b : Nat) : ({ cls := c, slots := Array.replicate 25 .null, vm := .none } : Cell) = mqO c b 0 := by
  rw [arrV_new]
  unfold mqO
  congr 1
theorem mqS_top (s : State) (f : JFrame) (cA cI : ClassId) : ∀ i, mqS (s.setTop f) cA cI i = (mqS s cA cI i).setTop f
  | 0 => rfl
  | i + 1 => by
    show ((mqS (s.setTop f) cA cI i).pushCell _).setCell _ _ = _
    rw [mqS_top s f cA cI i]
    rfl
theorem mqS_facts (s : State) (cA cI : ClassId) : ∀ i, (mqS s cA cI i).heap.size = s.heap.size + 1 + i ∧ (mqS s cA cI i).heap[s.heap.size]? = some (mqO cA s.heap.size i) ∧ (mqS s cA cI i).vm = s.vm ∧ (mqS s cA cI i).slotsUsed = s.slotsUsed + 25 + i * 5
  | 0 => ⟨State.heap_size_pushCell _ _, State.heap_pushCell_size _ _, rfl, by
      show s.slotsUsed + (mqO cA s.heap.size 0).slots.size = _
      rw [mqO_size]⟩
  | i + 1 => by
    obtain ⟨h1, h2, h3, h4⟩ := mqS_facts s cA cI i
    have hlt : s.heap.size < (mqS s cA cI i).heap.size := by omega
    have hb : ((mqS s cA cI i).pushCell (mqI cI)).heap[s.heap.size]? = some (mqO cA s.heap.size i) := (State.heap_pushCell_of_lt _ _ hlt).trans h2
    refine ⟨?_, State.heap_setCell_self hb, h3, ?_⟩
    · show (((mqS s cA cI i).heap.push (mqI cI)).setIfInBounds s.heap.size _).size = _
      rw [Array.size_setIfInBounds, Array.size_push, h1]
      omega
    · show (mqS s cA cI i).slotsUsed + (mqI cI).slots.size = _
      rw [mqI_size, h4]
      omega
theorem mqS_old (s : State) (cA cI : ClassId) {a : Nat} (ha : a < s.heap.size) : ∀ i, (mqS s cA cI i).heap[a]? = s.heap[a]?
  | 0 => State.heap_pushCell_of_lt _ _ ha
  | i + 1 => by
    have h1 := (mqS_facts s cA cI i).1
    show (((mqS s cA cI i).pushCell (mqI cI)).setCell s.heap.size _).heap[a]? = _
    rw [State.heap_setCell_other (Nat.ne_of_gt ha), State.heap_pushCell_of_lt _ _ (show a < (mqS s cA cI i).heap.size by omega)]
    exact mqS_old s cA cI ha i
theorem mqS_row (s : State) (cA cI : ClassId) : ∀ i j, j < i → (mqS s cA cI i).heap[s.heap.size + 1 + j]? = some (mqI cI)
  | 0, _, h => absurd h (Nat.not_lt_zero _)
  | i + 1, j, h => by
    have h1 := (mqS_facts s cA cI i).1
    show (((mqS s cA cI i).pushCell (mqI cI)).setCell s.heap.size _).heap[s.heap.size + 1 + j]? = _
    rw [State.heap_setCell_other (show s.heap.size ≠ s.heap.size + 1 + j by omega)]
    by_cases hj : j < i
    · rw [State.heap_pushCell_of_lt _ _ (show s.heap.size + 1 + j < (mqS s cA cI i).heap.size by omega)]
      exact mqS_row s cA cI i j hj
    · have e : s.heap.size + 1 + j = (mqS s cA cI i).heap.size := by omega
      rw [e]
      exact State.heap_pushCell_size _ _
section WP
variable {E : CtlPost} {e : Env} {d : Bool} {acts : List Action} {s : State}
theorem mq_new {c comp : ClassId} {k : Class} {type : FieldType} {n : Nat} {v : Value} (hk : s.vm.classes[c]? = some k) (hkind : k.kind = .array comp type) (h1 : ¬ n > e.platform.arrayLengthLimit) (h2 : ¬ n * componentBytes type > e.platform.maxHeapBytes) (hf : fits type v = true) (hv : v.isDefault = true)
    (hc : s.heap.size < e.platform.maxCells) (hs : s.slotsUsed + n ≤ e.platform.maxSlots) {Q : Addr → Pre} (hq : Q s.heap.size d acts (s.pushCell { cls := c, slots := Array.replicate n v, vm := .none })) : wp (Jvm.newArray c n v) Q E e d acts s := by
  have hfit : ∀ i x, (Array.replicate n v)[i]? = some x → s.fitsSlot c .none i x = true := by
    intro i x hx
    rw [Array.getElem?_replicate] at hx
    by_cases hi : i < n
    · rw [if_pos hi] at hx
      cases hx
      simp [State.fitsSlot, State.slotType?, hk, hkind, hf]
    · rw [if_neg hi] at hx
      cases hx
  have hact : allocActs (Array.replicate n v) s.heap.size acts = acts := by
    unfold allocActs
    have : ((Array.replicate n v).all (·.isDefault)) = true := by
      rw [Array.all_replicate]
      split
      · rfl
      · exact hv
    rw [if_pos this]
  have hstop : ¬ n > e.platform.maxSlots := by omega
  simp only [Jvm.newArray, Jvm.arrayFits, wp_bind', Jvm.W.ask, Jvm.W.ite, h1, h2, hstop, if_false, wp_pure', Jvm.W.theClass, hk, hkind, Jvm.W.alloc, Option.some.injEq, exists_eq_left', Array.size_replicate, hact]
  exact ⟨hc, hs, hfit, hq⟩
theorem mq_make {cA cI cc : ClassId} {kA kI : Class} (hkA : s.vm.classes[cA]? = some kA) (hA : kA.kind = .array cI (.array .int)) (hkI : s.vm.classes[cI]? = some kI) (hI : kI.kind = .array cc .int)
    (l1 : 536870912 ≤ e.platform.arrayLengthLimit) (l2 : 536870912 ≤ e.platform.maxHeapBytes) (hc : s.heap.size + 26 ≤ e.platform.maxCells) (hs : s.slotsUsed + 150 ≤ e.platform.maxSlots)
    {Q : Addr → Pre} (hq : ∀ d' acts', Q s.heap.size d' acts' (mqS s cA cI 25)) : wp (multianewarray.make cA [25, 5]) Q E e d acts s := by
  have e25 : (25 : Int32).toNatClampNeg = 25 := by decide
  have e5 : (5 : Int32).toNatClampNeg = 5 := by decide
  have n25 : ¬ (25 : Int32) < 0 := by decide
  have n5 : ¬ (5 : Int32) < 0 := by decide
  have z25 : ((25 : Int32) == 0) = false := by decide
  rw [multianewarray.make]
  simp only [wp_bind', Jvm.W.ite, n25, if_false, wp_pure', Jvm.W.theClass, hkA, hA, Option.some.injEq, exists_eq_left', e25, z25, Bool.false_eq_true]
  refine mq_new hkA hA (by omega) (by show ¬ 25 * 4 > _; omega) rfl rfl (by omega) (by omega) ?_
  rw [mqO_new cA s.heap.size, Std.Legacy.Range.forIn_eq_forIn_range']
  have hsz : ([:25] : Std.Legacy.Range).size = 25 := by simp [Std.Legacy.Range.size]
  rw [hsz, wp_bind']
  show wp (forIn (List.range' 0 25 1) PUnit.unit _) _ E e d acts _
  refine wp_forIn_inv (fun rest s' => ∃ i, i ≤ 25 ∧ rest = List.range' i (25 - i) ∧ s' = mqS s cA cI i) _ _ ⟨0, Nat.zero_le _, rfl, rfl⟩ ?_ ?_
  · rintro x rest s' d' acts' Q' ⟨i, hi, hl, rfl⟩ hnext
    have hlt : i < 25 := by
      by_cases h : i < 25
      · exact h
      · rw [show 25 - i = 0 by omega] at hl
        cases hl
    rw [show 25 - i = (25 - (i + 1)) + 1 by omega, List.range'_succ] at hl
    obtain ⟨rfl, rfl⟩ := List.cons.inj hl
    obtain ⟨f1, f2, f3, f4⟩ := mqS_facts s cA cI x
    have hlt0 : s.heap.size < (mqS s cA cI x).heap.size := by omega
    rw [multianewarray.make]
    simp only [wp_bind', Jvm.W.ite, n5, if_false, wp_pure', Jvm.W.theClass, f3, hkI, hI, Option.some.injEq, exists_eq_left', e5]
    refine mq_new (by rw [f3]; exact hkI) hI (by omega) (by show ¬ 5 * 4 > _; omega) rfl rfl (by omega) (by omega) ?_
    rw [show defaultValue FieldType.int = .int 0 from rfl, arrV_new]
    simp only [wp_bind', Jvm.W.writeLoc, wp_pure']
    refine ⟨mqO cA s.heap.size x, (State.heap_pushCell_of_lt _ _ hlt0).trans f2, (fun h => by cases h), by rw [mqO_size]; exact hlt, ?_, hnext _ _ _ ⟨x + 1, hlt, rfl, ?_⟩⟩
    · show State.fitsSlot ((mqS s cA cI x).pushCell _) cA .none x _ = true
      simp [State.fitsSlot, State.slotType?, f3, hkA, hA, fits]
    · rw [f1, mqO_set]
      rfl
  · rintro s' d' acts' ⟨i, hi, hl, rfl⟩
    have hi2 : i = 25 := by
      by_cases h : i < 25
      · rw [show 25 - i = (25 - (i + 1)) + 1 by omega, List.range'_succ] at hl
        cases hl
      · omega
    subst hi2
    simp only [wp_pure']
    exact hq _ _
end WP
/-- the class of the int[][] -/
def mqAO (U : State) : Prop := ∃ (comp c : ClassId) (k : Class), U.vm.findClass (FieldType.array .int).toString = some comp ∧ U.vm.classes[c]? = some k ∧ k.kind = .array comp (.array .int) ∧ U.vm.findClass ("[" ++ (FieldType.array .int).toString) = some c
theorem mqAO.moved {u U : State} (hvm : u.vm.Alike U.vm) (h : mqAO u) : mqAO U := by
  obtain ⟨comp, c, k, h1, h2, h3, h4⟩ := h
  obtain ⟨k', hk', he⟩ := hvm.2.2 _ _ h2
  exact ⟨comp, c, k', by rw [hvm.findClass]; exact h1, hk', by rw [he]; exact h3, by rw [hvm.findClass]; exact h4⟩
theorem mqAO.of {args : Array Value} {s : State} (h : (Cond.arrayOver (.array .int)).before args s = true) : mqAO s := by
  obtain ⟨comp, c, k, h1, -, h2, h3, h4⟩ := arrayOverA_spec h
  exact ⟨comp, c, k, h1, h2, h3, h4⟩
section ST
variable {p : Program} {l : Launch} {e : Env} {R : Room} {s : State} {m : MethodId} {args : Array Value} {below : List Frame} {meth : Method} {c : Code} {T : State} {H : Heap} {locs : List Loc} {cells slots : Nat} {Q : State → Prop}
theorem mq_stand (X : Stand p l e R s m args below meth c T locs cells slots) (hle : s.heap.size ≤ T.heap.size) (cA cI : ClassId) : ∀ i, Stand p l e R s m args below meth c (mqS T cA cI i) locs (cells + 1 + i) (slots + 25 + i * 5)
  | 0 => by
    have h := X.pushed (mqO cA T.heap.size 0)
    rw [mqO_size] at h
    exact h
  | i + 1 => by
    have Xi := mq_stand X hle cA cI i
    obtain ⟨f1, f2, f3, f4⟩ := mqS_facts T cA cI i
    have hlt0 : T.heap.size < (mqS T cA cI i).heap.size := by omega
    have hcell : ((mqS T cA cI i).pushCell (mqI cI)).heap[T.heap.size]? = some (mqO cA T.heap.size i) := (State.heap_pushCell_of_lt _ _ hlt0).trans f2
    have h := (Xi.pushed (mqI cI)).stored hcell i (.ref (T.heap.size + 1 + i))
    rw [mqI_size, mqO_set] at h
    have h2 := Stand.forget h (fun y hy => by
      rw [List.mem_singleton.mp hy]
      exact hle)
    have e3 : slots + 25 + (i + 1) * 5 = slots + 25 + i * 5 + 5 := by omega
    rw [e3]
    exact h2
theorem mq_W {cc : ByteArray} (hexec : p.tables.exec = Jvm.exec) (hb : c.code = cc) {own : String} {index : Nat} (hown : s.vm.findClass own = some m.cls) (hclink : (Cond.classLink own index ("[" ++ (FieldType.array .int).toString)).before args s = true) (hover : mqAO s) (harr : (Cond.arrayClass .int).before args s = true)
    {pc : Nat} {ls : Array Slot} {rest : List Value} (hdg : decode cc pc = .ok (.multianewarray index 2, 4)) (hle : s.heap.size ≤ H.size) (hcells : cells + 26 ≤ R.cells) (hslots : slots + 150 ≤ R.slots)
    (kk : ∀ (cA cI : ClassId) (H1 : Heap), s.vm.findClass ("[" ++ (FieldType.array .int).toString) = some cA → s.vm.findClass (FieldType.array .int).toString = some cI → H1.size = H.size + 26 → H1[H.size]? = some (mqO cA H.size 25) → (∀ j, j < 25 → H1[H.size + 1 + j]? = some (mqI cI)) → (∀ q, q < H.size → H1[q]? = H[q]?) →
      W p l e R s m args below meth c H1 locs (cells + 26) (slots + 150) Q (F0 m (pc + 4) ls (.ref H.size :: rest))) : W p l e R s m args below meth c H locs cells slots Q (F0 m pc ls (.int 5 :: .int 25 :: rest)) := by
  intro T hT X
  subst hT
  subst hb
  have hpl : e.platform.magicAccessors = ({} : Platform).magicAccessors := by rw [X.admits.platform]
  obtain ⟨cI, cA, kA, hcomp, hkA, hkindA, hnameA⟩ := hover
  obtain ⟨cI', kI, cc', hcomp', hkI, hkindI⟩ := Cond.arrayClass_spec harr
  cases Option.some.inj (hcomp'.symm.trans hcomp)
  obtain ⟨c0, hfc0, hcl⟩ := Cond.classLink_spec hown hclink e.platform hpl
  cases hnameA.symm.trans hfc0
  obtain ⟨hg₁, hwarm₁, hready₁⟩ := State.classEntry (e := e) X.warmed hcl
  generalize T.vm.noted m.cls index (.cls cA) = vm₁ at hg₁ hwarm₁ hready₁
  have hal : s.vm.Alike vm₁ := hwarm₁.alike
  obtain ⟨kA₁, hkA₁, heA⟩ := hal.2.2 _ _ hkA
  obtain ⟨kI₁, hkI₁, heI⟩ := hal.2.2 _ _ hkI
  have hkindA₁ : kA₁.kind = .array cI (.array .int) := by rw [heA]; exact hkindA
  have hkindI₁ : kI₁.kind = .array cc' .int := by rw [heI]; exact hkindI
  have X₁ := X.noted hwarm₁
  obtain ⟨hr1, hr2⟩ := X.roomAbove hcells hslots
  have XF := mq_stand X₁ hle cA cI 25
  obtain ⟨f1, f2, f3, f4⟩ := mqS_facts (T.setVm vm₁) cA cI 25
  obtain ⟨t, a1, b1⟩ := kk cA cI (mqS (T.setVm vm₁) cA cI 25).heap hnameA hcomp (by rw [f1]; rfl) f2 (mqS_row (T.setVm vm₁) cA cI 25) (fun q hq => mqS_old (T.setVm vm₁) cA cI hq 25) (mqS (T.setVm vm₁) cA cI 25) rfl XF
  refine ⟨t, ?_, b1⟩
  have l1 : 536870912 ≤ e.platform.arrayLengthLimit := by rw [Launch.admits_arrayLengthLimit X.admits]; decide
  have l2 : 536870912 ≤ e.platform.maxHeapBytes := by rw [Launch.admits_maxHeapBytes X.admits]; exact Nat.le_refl _
  jvm_step X.here [hexec, hdg]
  simp only [multianewarray.sem, wp_bind', Jvm.W.resolveClassAt_links (State.method?_setTop (F0 m pc ls (.int 5 :: .int 25 :: rest)) X.here.top) hg₁]
  rw [Jvm.W.popN, if_neg (by decide)]
  refine ⟨_, State.topJava?_setTop' (s := T.setVm vm₁) _ X.here.top, [.int 25, .int 5], rest, rfl, rfl, ?_⟩
  simp only [List.mapM_cons, List.mapM_nil, wp_bind', wp_pure']
  have eS : ∀ g1 g2 : JFrame, ((T.setTop g1).setVm vm₁).setTop g2 = (T.setVm vm₁).setTop g2 := fun g1 g2 => by
    show ((T.setVm vm₁).setTop g1).setTop g2 = _
    rw [State.setTop_setTop]
  refine mq_make hkA₁ hkindA₁ hkI₁ hkindI₁ l1 l2 (by show T.heap.size + 26 ≤ _; omega) (by show T.slotsUsed + 150 ≤ _; omega) (fun d' acts' => ?_)
  rw [eS, mqS_top]
  simp only [wp_bind', Jvm.W.mark, Jvm.W.pushRef, State.topJava?_setTop' _ XF.here.top, Option.some.injEq, exists_eq_left', State.setTop_setTop, State.heap_setTop]
  intro acts
  simp [jvm, XF.here.top]
  exact a1
end ST
end Multi

