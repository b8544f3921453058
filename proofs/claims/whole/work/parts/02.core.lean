/-! THE ABSTRACT MACHINE: a memory of 102 cells whose references never change -/
abbrev kM : Type := Nat → Nat → Int32
def kU (h : kM) (k j : Nat) (x : Int32) : kM := fun a => if a = k then upd (h k) j x else h a
def kCp (h : kM) (k0 k1 sp dp n : Nat) : kM := fun a => if a = k1 then va_cpy (h k0) (h k1) sp dp n else h a
/-- cells: 0 an object of a class, 1 an int array of a length, 2 the Sheets' array, 3 the courses' array -/
def kdL : List (Nat × Nat) := [(0, 7), (0, 2), (1, 64), (1, 2), (1, 5), (1, 5), (1, 15), (1, 15), (1, 15), (1, 15), (1, 60), (1, 24), (0, 6), (1, 60), (1, 60), (0, 6), (1, 60), (1, 60), (0, 2), (1, 64), (1, 2), (1, 5), (1, 5), (1, 15), (1, 15), (1, 15), (1, 15), (1, 60), (1, 24), (0, 6), (1, 60), (1, 60), (0, 6), (1, 60), (1, 60), (0, 1), (0, 6), (1, 60), (1, 60), (1, 60), (0, 0), (1, 24), (1, 24), (1, 24), (3, 25), (1, 5), (1, 5), (1, 5), (1, 5), (1, 5), (1, 5), (1, 5), (1, 5), (1, 5), (1, 5), (1, 5), (1, 5), (1, 5), (1, 5), (1, 5), (1, 5), (1, 5), (1, 5), (1, 5), (1, 5), (1, 5), (1, 5), (1, 5), (1, 5), (1, 5), (1, 5), (0, 3), (1, 10), (1, 10), (1, 30), (1, 3), (0, 5), (1, 30), (2, 4), (0, 4), (1, 24), (0, 4), (1, 24), (0, 4), (1, 24), (0, 4), (1, 24), (1, 7), (0, 8), (1, 481), (1, 481), (1, 481), (1, 294), (1, 7), (1, 124), (1, 128), (1, 64), (1, 30), (1, 4), (1, 4), (1, 96), (1, 24)]
def kd (k : Nat) : Nat × Nat := kdL.getD k (9, 0)
def offL : List (List Nat) := [[1, 2, 3, 4, 30, 0, 0, 0, 0, 0, 0], [1, 4, 0, 0, 0, 999], [1, 2, 3, 4, 5, 6, 7, 8, 9, 10, 11, 14, 0, 0, 0, 0, 0], [1, 2, 3, 4, 0, 0, 0, 0, 0, 0], [1, 0, 0], [1, 0, 0, 0, 0, 0], [1, 2, 0], [1, 18, 0, 35, 40, 71, 76, 78, 87], [1, 2, 3, 4, 0, 5, 0, 0, 0, 0, 6, 7, 8, 0, 0, 0, 9, 0, 0, 0, 10, 11, 12, 13]]
def koff (c j : Nat) : Nat := (offL.getD c []).getD j 0
def kN (c : Nat) : Nat := ([11, 6, 17, 10, 3, 6, 3, 9, 24] : List Nat).getD c 0
/-- launch, class and slot numbers, addresses of the cells, classes of int[], Sheet[], int[][] -/
abbrev kG : Type := Launch × va_G × (Nat → Nat) × ClassId × ClassId × ClassId
abbrev kad (G : kG) : Nat → Nat := G.2.2.1
abbrev kDD (G : kG) : va_G := G.2.1
abbrev ktys (G : kG) : List (ClassId × FieldType) := [(G.2.2.2.1, .int), (G.2.2.2.2.1, .object RX4), (G.2.2.2.2.2, .array .int)]
def kc (G : kG) (v : Value) : Value := match v with
  | .ref k => .ref (kad G k)
  | v => v
def kfv (h : kM) (k c j : Nat) : Value := if koff c j = 0 then .int (h k j) else if koff c j = 999 then .ref (1000 + (h k j).toNatClampNeg) else .ref (k + koff c j)
def kE (G : kG) (h : kM) (k : Nat) : va_E :=
  if (kd k).1 = 0 then .inr ((kd k).2, (List.range (kN (kd k).2)).map (fun j => kc G (kfv h k (kd k).2 j)))
  else if (kd k).1 = 1 then .inl (G.2.2.2.1, ((kd k).2, .inl (h k)))
  else if (kd k).1 = 2 then .inl (G.2.2.2.2.1, ((kd k).2, .inr (.inr (.inr (.inr (fun i => some (kad G (k + 1 + 2 * i))))))))
  else .inl (G.2.2.2.2.2, ((kd k).2, .inr (.inr (.inr (.inr (fun i => some (kad G (k + 1 + i))))))))
def kW (G : kG) (h : kM) : va_W := (List.range 102).map (fun k => (kad G k, kE G h k))
def kA (G : kG) : Nat → Prop := fun q => ∃ k, k < 102 ∧ q = kad G k
def kInj (G : kG) : Prop := ∀ i j, i < 102 → j < 102 → kad G i = kad G j → i = j
theorem kW_at (G : kG) (h : kM) {k : Nat} (hk : k < 102) : (kW G h)[k]? = some (kad G k, kE G h k) := by
  simp [kW, hk]
theorem kW_mem {G : kG} {h : kM} {k : Nat} {q : Nat × va_E} (hq : (kW G h)[k]? = some q) : k < 102 ∧ q = (kad G k, kE G h k) := by
  have hl : k < 102 := by
    have := (List.getElem?_eq_some_iff.mp hq).1
    simpa [kW] using this
  rw [kW_at G h hl] at hq
  exact ⟨hl, (Option.some.inj hq).symm⟩
theorem kW_D {G : kG} (hI : kInj G) (h : kM) : va_D (kA G) (kW G h) := by
  refine ⟨fun i j p q hp hq e => ?_, fun k q hq => ?_⟩
  · obtain ⟨h1, rfl⟩ := kW_mem hp
    obtain ⟨h2, rfl⟩ := kW_mem hq
    exact hI i j h1 h2 e
  · obtain ⟨h1, rfl⟩ := kW_mem hq
    exact ⟨k, h1, rfl⟩
theorem kd_lt {k t a : Nat} (h : kd k = (t, a)) (ht : t ≠ 9) : k < 102 := by
  rcases Nat.lt_or_ge k 102 with q | q
  · exact q
  · exfalso
    have : kd k = (9, 0) := by
      unfold kd
      rw [List.getD_eq_getElem?_getD, List.getElem?_eq_none (by show kdL.length ≤ k; exact Nat.le_trans (by decide +kernel) q)]
      rfl
    rw [this] at h
    exact ht (Prod.mk.inj h).1.symm
/-- a world whose cell k was set is the world of the other memory -/
theorem kW_set {G : kG} {h h' : kM} {k : Nat} {e : va_E} (he : kE G h' k = e) (ho : ∀ j, j ≠ k → kE G h' j = kE G h j) : (kW G h).set k (kad G k, e) = kW G h' := by
  apply List.ext_getElem?
  intro j
  by_cases hjk : k = j
  · subst hjk
    by_cases hk : k < 102
    · rw [List.getElem?_set_self (by simpa [kW] using hk), kW_at G h' hk, he]
    · have h1 : (kW G h').length ≤ k := by simpa [kW] using Nat.le_of_not_lt hk
      have h2 : ((kW G h).set k (kad G k, e)).length ≤ k := by simpa [kW] using Nat.le_of_not_lt hk
      rw [List.getElem?_eq_none h1, List.getElem?_eq_none h2]
  · rw [List.getElem?_set_ne hjk]
    by_cases hj : j < 102
    · rw [kW_at G h hj, kW_at G h' hj, ho j (fun q => hjk q.symm)]
    · have h1 : (kW G h').length ≤ j := by simpa [kW] using Nat.le_of_not_lt hj
      have h2 : (kW G h).length ≤ j := by simpa [kW] using Nat.le_of_not_lt hj
      rw [List.getElem?_eq_none h1, List.getElem?_eq_none h2]
theorem kE_ne {G : kG} {h h' : kM} {j : Nat} (e : h' j = h j) : kE G h' j = kE G h j := by
  have : ∀ c i, kfv h' j c i = kfv h j c i := fun c i => by unfold kfv; rw [e]
  unfold kE
  rw [e]
  simp only [this]
theorem kU_ne {h : kM} {k j : Nat} {x : Int32} {a : Nat} (ha : a ≠ k) : kU h k j x a = h a := if_neg ha
theorem kU_eq {h : kM} {k j : Nat} {x : Int32} : kU h k j x k = upd (h k) j x := if_pos rfl
theorem kCp_ne {h : kM} {k0 k1 sp dp n a : Nat} (ha : a ≠ k1) : kCp h k0 k1 sp dp n a = h a := if_neg ha
theorem kCp_eq {h : kM} {k0 k1 sp dp n : Nat} : kCp h k0 k1 sp dp n k1 = va_cpy (h k0) (h k1) sp dp n := if_pos rfl
/-- words -/
noncomputable def TW : List Cond := lw_tbl.filter goodWord
theorem tw_mem {w : Cond} (h : w ∈ lw_tbl) (g : goodWord w = true) : w ∈ TW := List.mem_filter.mpr ⟨h, g⟩
theorem tw_in {w : Cond} (h : w ∈ TW) : w ∈ lw_tbl := (List.mem_filter.mp h).1
/-- the constants' world: statics, their arrays, two Strings -/
def kAb : List Int32 := [-1, 0, 0, 0, 1, 2, 0]
def kBo : List Int32 := [10, 11, 12, 13, 20, 0, 0, 21, 0, 30, 0, 0, 0, 0, 40, 0, 50, 0, 51, 0, 0, 60, 0, 0, 70, 71, 0, 0]
def kNest : List Cond := lw_tbl.filter (fun w => !goodWord w && (match w with | .methodLinkNest .. => true | .fieldLinkNest .. => true | _ => false))
def kStr (G : kG) (U : State) (H : Heap) : Prop := vk_S 2 [3, 3] [[104, 119, 109], [107, 109, 110]] (fun i => kad G (1000 + i)) (fun i => kad G (1010 + i)) (kA G) U H
def kCW (G : kG) (U : State) (H : Heap) : Prop :=
  va_Z "KnottedWinds" "ABOVE" "[I" (.ref (kad G 1002)) (kA G) U H ∧ va_T .int (kad G 1002) 7 (fun j => .int (kAb.getD j 0)) (kA G) U H ∧
  va_Z "KnottedWinds$Speaker" "BODIES" "[I" (.ref (kad G 1003)) (kA G) U H ∧ va_T .int (kad G 1003) 28 (fun j => .int (kBo.getD j 0)) (kA G) U H ∧
  va_Z "java/lang/String" "COMPACT_STRINGS" "Z" (.int 1) (kA G) U H ∧ kStr G U H
def kTb (G : kG) (U : State) : Prop :=
  va_K (kDD G) vwCl (ktys G) U ∧ (∀ w ∈ kNest, va_Nw w U) ∧ vk_R RX1 22 "hwm" (kad G 1000) U ∧ vk_R RX1 51 "kmn" (kad G 1001) U
def kK (G : kG) (U : State) (H : Heap) : Prop := kInj G ∧ kTb G U ∧ kCW G U H
theorem kNest_warm {s U : State} (hW : s.WarmedH U.vm) {w : Cond} (hw : w ∈ kNest) (h : va_Nw w s) : va_Nw w U := by
  have h2 := (List.mem_filter.mp hw).2
  cases w <;> first | exact va_Nw.warmM hW h | exact va_Nw.warmF hW h | (simp at h2)
theorem kTb.warm {G : kG} {s U : State} (hW : s.WarmedH U.vm) (h : kTb G s) : kTb G U :=
  ⟨va_K.moved hW.alike h.1, fun w hw => kNest_warm hW hw (h.2.1 w hw), vk_R.warm hW h.2.2.1, vk_R.warm hW h.2.2.2⟩
theorem kTb.same {G : kG} {s U : State} (hv : U.vm = s.vm) (h : kTb G s) : kTb G U :=
  ⟨va_K.moved (by rw [hv]; exact Vm.Alike.refl s.vm) h.1, fun w hw => by
    have h2 := (List.mem_filter.mp hw).2
    cases w <;> first | exact va_Nw.same rfl hv.symm (h.2.1 _ hw) | (simp at h2), vk_R.same hv h.2.2.1, vk_R.same hv h.2.2.2⟩
theorem kCW.moved {G : kG} {s U : State} {H : Heap} (hv : s.vm.Alike U.vm) (h : kCW G s H) : kCW G U H :=
  ⟨h.1.moved hv, h.2.1.moved hv, h.2.2.1.moved hv, h.2.2.2.1.moved hv, h.2.2.2.2.1.moved hv, h.2.2.2.2.2.moved hv⟩
theorem kCW.kept {G : kG} {s : State} {H H1 : Heap} (h : kCW G s H) (hq : ∀ a : Nat, a < H.size → ¬ kA G a → H1[a]? = H[a]?) : kCW G s H1 :=
  ⟨h.1.kept hq, h.2.1.kept hq, h.2.2.1.kept hq, h.2.2.2.1.kept hq, h.2.2.2.2.1.kept hq, h.2.2.2.2.2.kept hq⟩
/-- locals: by their places, .null where nothing is known -/
def kl (G : kG) : Nat → List Value → List (Nat × Value)
  | _, [] => []
  | i, .null :: t => kl G (i + 1) t
  | i, v :: t => (i, kc G v) :: kl G (i + 1) t
theorem kl_mem {G : kG} : ∀ (l : List Value) (i j : Nat) (w : Value), (j, w) ∈ kl G i l ↔ ∃ (n : Nat) (v : Value), l[n]? = some v ∧ v ≠ .null ∧ j = i + n ∧ w = kc G v
  | [], i, j, w => by simp [kl]
  | a :: t, i, j, w => by
    have ih := kl_mem (G := G) t (i + 1) j w
    by_cases ha : a = .null
    · subst ha
      show (j, w) ∈ kl G (i + 1) t ↔ _
      rw [ih]
      constructor
      · rintro ⟨n, v, h1, h2, h3, h4⟩
        exact ⟨n + 1, v, by simpa using h1, h2, by omega, h4⟩
      · rintro ⟨n, v, h1, h2, h3, h4⟩
        cases n with
        | zero => simp at h1; exact absurd h1.symm h2
        | succ n => exact ⟨n, v, by simpa using h1, h2, by omega, h4⟩
    · have e : kl G i (a :: t) = (i, kc G a) :: kl G (i + 1) t := by cases a <;> first | rfl | exact absurd rfl ha
      rw [e, List.mem_cons, ih]
      constructor
      · rintro (h | ⟨n, v, h1, h2, h3, h4⟩)
        · obtain ⟨h5, h6⟩ := Prod.mk.inj h
          exact ⟨0, a, rfl, ha, by omega, h6⟩
        · exact ⟨n + 1, v, by simpa using h1, h2, by omega, h4⟩
      · rintro ⟨n, v, h1, h2, h3, h4⟩
        cases n with
        | zero =>
          simp at h1
          subst h1
          exact Or.inl (by rw [h3, h4]; rfl)
        | succ n => exact Or.inr ⟨n, v, by simpa using h1, h2, by omega, h4⟩
def kNL (ls : List Value) (i : Nat) : Bool := match i with
  | 0 => true
  | j + 1 => match ls[j]? with
    | some (.long _) => false
    | some (.double _) => false
    | _ => true
theorem kc_cat (G : kG) (v : Value) : (kc G v).category = v.category := by cases v <;> rfl
theorem kc_null {G : kG} {v : Value} (h : v ≠ .null) : kc G v ≠ .null := by cases v <;> simp_all [kc]
/-- behind a store -/
theorem kl_store {G : kG} {lsC : Array Slot} {nL : Nat} {ls : List Value} {i : Nat} {v : Value} (hNL : kNL ls i = true) (h : lv_has lsC nL ((i, kc G v) :: (kl G 0 ls).filter (fun q => !(q.1 == i) && !(q.1 + 1 == i && q.2.category == 2)))) : lv_has lsC nL (kl G 0 (ls.set i v)) := by
  refine ⟨h.1, h.2.1, fun q hq => ?_⟩
  obtain ⟨j, w⟩ := q
  obtain ⟨n, v', h1, h2, h3, h4⟩ := (kl_mem _ _ _ _).mp hq
  apply h.2.2
  have hjn : j = n := by omega
  by_cases hn : n = i
  · have hlt : i < ls.length := by
      have h5 := (List.getElem?_eq_some_iff.mp h1).1
      rw [List.length_set] at h5
      omega
    have h6 : v' = v := by
      rw [hn, List.getElem?_set_self hlt] at h1
      exact (Option.some.inj h1).symm
    rw [hjn, hn, h4, h6]
    exact List.mem_cons_self
  · rw [List.getElem?_set_ne (fun e => hn e.symm)] at h1
    refine List.mem_cons_of_mem _ (List.mem_filter.mpr ⟨(kl_mem _ _ _ _).mpr ⟨n, v', h1, h2, h3, h4⟩, ?_⟩)
    have h7 : (j == i) = false := by simp; omega
    have h8 : (j + 1 == i && w.category == 2) = false := by
      by_cases hj : j + 1 = i
      · have h9 : w.category ≠ 2 := by
          rw [h4, kc_cat]
          rw [← hj] at hNL
          have hNL2 : (match ls[j]? with | some (.long _) => false | some (.double _) => false | _ => true) = true := hNL
          rw [hjn, h1] at hNL2
          cases v' <;> first | (simp [Value.category]; done) | (simp at hNL2)
        simp [h9]
      · simp [hj]
    simp only [h7, h8]
    rfl
theorem kl_get {G : kG} {lsC : Array Slot} {nL : Nat} {ls : List Value} (h : lv_has lsC nL (kl G 0 ls)) {i : Nat} {v : Value} (hv : ls[i]? = some v) (hn : v ≠ .null) : lsC[i]? = some (.val (kc G v)) :=
  h.2.2 (i, kc G v) ((kl_mem _ _ _ _).mpr ⟨i, v, hv, hn, by omega, rfl⟩)
/-! methods, contracts, steps -/
abbrev kMt : Type := MethodName × ByteArray × Nat × Option FieldType
noncomputable def kws (mt : kMt) : List Cond := .code mt.1 mt.2.1 mt.2.2.1 mt.2.2.2 :: TW
def kR (d : Nat) : Room := { frames := d, cells := 0, slots := 0, locals := 64 * d }
def kRet (G : kG) (ret : Option FieldType) (x : Int32) : Option Value := match ret with
  | none => none
  | some (.object _) => some (.ref (kad G x.toNatClampNeg))
  | some _ => some (.int x)
def kQ (G : kG) (ret : Option FieldType) (Q : Int32 → kM → Prop) : Array Value → State → Outcome → State → Prop := fun _ st oc t =>
  (∃ (x : Int32) (h' : kM), oc = .returned (kRet G ret x) ∧ Q x h' ∧ va_P (kDD G) vwCl (kW G h') t.heap) ∧ va_F (kA G) st t
/-- a method's contract: at depth d, called with these values over this memory, it ends with Q -/
def Cal (G : kG) (d : Nat) (mt : kMt) (av : List Value) (h : kM) (Q : Int32 → kM → Prop) : Prop :=
  Met G.1 mt.1 (kws mt) (kR d) (va_Pc (av.map (kc G)) (fun U => va_P (kDD G) vwCl (kW G h) U.heap ∧ kK G U U.heap)) (kQ G mt.2.2.2 Q) 0 0 (kA G)
/-- room, cells, slots, what is known of the start, the end -/
abbrev kEv : Type := Room × Nat × Nat × (State → Prop) × (List Frame → Array Value → State → State → Prop)
def kEo (G : kG) (d : Nat) (mt : kMt) (Q : Int32 → kM → Prop) : kEv := (kR d, 0, 0, fun _ => True, fun below args s => MQ below (kQ G mt.2.2.2 Q) args s 0 0 (kA G))
def kX (G : kG) (mt : kMt) (E : kEv) (p : Program) (s : State) (m : MethodId) (args : Array Value) (meth : Method) (c : Code) : Prop :=
  p.tables.exec = Jvm.exec ∧ c.code = mt.2.1 ∧ c.maxLocals = mt.2.2.1 ∧ s.vm.findClass mt.1.cls = some m.cls ∧ (∀ w ∈ kws mt, w.before args s = true) ∧ meth.locks = false ∧ meth.sig.returnType = mt.2.2.2 ∧ kK G s s.heap ∧ E.2.2.2.1 s
def kOk (d : Nat) (E : kEv) : Prop := d ≤ E.1.frames ∧ 64 * d ≤ E.1.locals ∧ E.2.1 ≤ E.1.cells ∧ E.2.2.1 ≤ E.1.slots
def Wp (G : kG) (d : Nat) (mt : kMt) (E : kEv) (pc : Nat) (ls st : List Value) (h : kM) : Prop :=
  kOk d E → ∀ (p : Program) (e : Env) (s : State) (m : MethodId) (args : Array Value) (below : List Frame) (meth : Method) (c : Code) (H : Heap) (locs : List Loc) (lsC : Array Slot),
    kX G mt E p s m args meth c → va_P (kDD G) vwCl (kW G h) H → va_S (kA G) s.heap H locs → lv_has lsC mt.2.2.1 (kl G 0 ls) →
    W p G.1 e E.1 s m args below meth c H locs E.2.1 E.2.2.1 (E.2.2.2.2 below args s) (F0 m pc lsC (st.map (kc G)))
theorem kOk_o (G : kG) (d : Nat) (mt : kMt) (Q : Int32 → kM → Prop) : kOk d (kEo G d mt Q) := ⟨Nat.le_refl _, Nat.le_refl _, Nat.le_refl _, Nat.le_refl _⟩
theorem Cal.of {G : kG} {d : Nat} {mt : kMt} {av : List Value} {h : kM} {Q : Int32 → kM → Prop} (ls : List Value) (hy : plainName mt.1.cls = true) (hn : (lg_sl (av.map (kc G))).length ≤ mt.2.2.1) (hl : lv_args 0 (av.map (kc G)) = kl G 0 ls) (w : Wp G d mt (kEo G d mt Q) 0 ls [] h) : Cal G d mt av h Q := by
  refine Met.ofW (cc := mt.2.1) (maxL := mt.2.2.1) (ret := mt.2.2.2) hy rfl ?_
  intro p e s m args below meth c s₁ B hml hv
  obtain ⟨rfl, hP, hK⟩ := hv
  have hl0 := lv_entry (av.map (kc G)) (n := mt.2.2.1) hn
  rw [lg_entry_eq]
  generalize (lg_sl (av.map (kc G)) ++ List.replicate (mt.2.2.1 - (lg_sl (av.map (kc G))).length) Slot.unset).toArray = lsC at hl0 ⊢
  rw [hl] at hl0
  exact w (kOk_o G d mt Q) p e s m _ below meth c s.heap [] lsC ⟨B.exec, B.bytes, hml, findClass_of_methodNamed B.named, atoms_spec (ws := kws mt) B.pre, B.notSynchronized, B.returns, hK, trivial⟩ hP va_S.rf hl0
