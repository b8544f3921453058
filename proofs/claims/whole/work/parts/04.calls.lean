/-! calls and returns of the abstract machine -/
theorem tw_good {w : Cond} (h : w ∈ TW) : goodWord w = true := (List.mem_filter.mp h).2
theorem kws_good {mt : kMt} (hc : Cond.code mt.1 mt.2.1 mt.2.2.1 mt.2.2.2 ∈ TW) {Ts : List Cond} (hT : ∀ w ∈ TW, w ∈ Ts) : GoodIn Ts (kws mt) := by
  intro w hw
  rcases List.mem_cons.mp hw with rfl | hw
  · exact ⟨hT _ hc, good_of_word (tw_good hc)⟩
  · exact ⟨hT _ hw, good_of_word (tw_good hw)⟩
theorem kB_blind {G : kG} {h : kM} {av : List Value} : FrameBlind (va_Pc av (fun U => va_P (kDD G) vwCl (kW G h) U.heap ∧ kK G U U.heap)) := by
  rintro a U g mk ⟨h1, h2, h3, h4, h5⟩
  exact ⟨h1, h2, h3, kTb.same (s := U) (U := U.calling g mk a) rfl h4, h5.moved (U := U.calling g mk a) (Vm.Alike.refl U.vm)⟩
theorem kB_pre {G : kG} {h : kM} {s U : State} {H : Heap} {locs : List Loc} (hK : kK G s s.heap) (hP : va_P (kDD G) vwCl (kW G h) H) (hS : va_S (kA G) s.heap H locs) (hU : U.heap = H) (hW : s.WarmedH U.vm) : va_P (kDD G) vwCl (kW G h) U.heap ∧ kK G U U.heap := by
  rw [hU]
  exact ⟨hP, hK.1, hK.2.1.warm hW, (hK.2.2.kept hS.2.1).moved hW.alike⟩
section KC
variable {p : Program} {l : Launch} {e : Env} {R : Room} {s : State} {m : MethodId} {args : Array Value} {below : List Frame} {meth : Method} {c : Code} {H : Heap} {locs : List Loc} {cells slots : Nat} {Q : State → Prop}
theorem kcall {G : kG} {ret : Option FieldType} {Q' : Int32 → kM → Prop} {pc : Nat} {lsC : Array Slot} {st0 rest : List Value} {a : Array Value} (hr : va_Run p l e R s m args below meth c H locs cells slots 0 0 (F0 m pc lsC st0) rest (kQ G ret Q' a) (kA G)) (hS : va_S (kA G) s.heap H locs)
    (kk : ∀ (x : Int32) (h' : kM) (H1 : Heap) (locs1 : List Loc), Q' x h' → va_P (kDD G) vwCl (kW G h') H1 → va_S (kA G) s.heap H1 locs1 → W p l e R s m args below meth c H1 locs1 cells slots Q (F0 m (pc + 3) lsC ((kRet G ret x).toList ++ rest))) : W p l e R s m args below meth c H locs cells slots Q (F0 m pc lsC st0) := by
  intro T hT X
  obtain ⟨v, st₀, t, T', L, h0, X', hL, e1, e2, ⟨⟨x, h', hv, hq, hP'⟩, hz, hk⟩, st⟩ := hr T hT X
  cases hv
  rw [h0] at hz hk
  obtain ⟨t2, a1, b1⟩ := kk x h' T'.heap (locs ++ L) hq (by rw [e1]; exact hP')
    ⟨Nat.le_trans hS.1 (by rw [e1]; exact hz), fun q h1 h2 => by rw [e1, hk q (Nat.lt_of_lt_of_le h1 hS.1) h2]; exact hS.2.1 q h1 h2, fun q hq => by
      rcases List.mem_append.mp hq with h | h
      · exact hS.2.2 q h
      · exact hL q h⟩ T' rfl X'
  exact ⟨t2, st t2 a1, b1⟩
end KC
theorem kc_sum (G : kG) (st : List Value) : ((st.map (kc G)).map fun v => v.category).sum = (st.map fun v => v.category).sum := by
  congr 1
  rw [List.map_map]
  exact List.map_congr_left (fun v _ => kc_cat G v)
def kPush (ret : Option FieldType) (x : Int32) (rest : List Value) : List Value := match ret with
  | none => rest
  | some (.object _) => .ref x.toNatClampNeg :: rest
  | some _ => .int x :: rest
theorem kPush_c (G : kG) (ret : Option FieldType) (x : Int32) (rest : List Value) : (kRet G ret x).toList ++ rest.map (kc G) = (kPush ret x rest).map (kc G) := by
  cases ret with
  | none => rfl
  | some t => cases t <;> rfl
/-- a virtual method (private ones too), by its words -/
def kLV (mt mt' : kMt) (idx n : Nat) : Prop :=
  Cond.methodLink mt.1.cls idx mt'.1 ∈ TW ∧ Cond.instanceMethod mt'.1 ∈ TW ∧ Cond.selects mt'.1.cls mt'.1 mt'.1 ∈ TW ∧ Cond.initialized mt'.1.cls ∈ TW ∧ Cond.code mt'.1 mt'.2.1 mt'.2.2.1 mt'.2.2.2 ∈ TW ∧
  (mt'.1.cls ≠ "java/lang/invoke/MethodHandle" ∧ mt'.1.cls ≠ "java/lang/invoke/VarHandle" ∧ (parseMethodDescriptor mt'.1.desc).map (fun d => d.parameters.length) = some n) ∧ mt'.2.2.1 ≤ 45
def kLS (mt mt' : kMt) (idx n : Nat) : Prop :=
  Cond.methodLink mt.1.cls idx mt'.1 ∈ TW ∧ Cond.static mt'.1 ∈ TW ∧ Cond.initialized mt'.1.cls ∈ TW ∧ Cond.code mt'.1 mt'.2.1 mt'.2.2.1 mt'.2.2.2 ∈ TW ∧
  (mt'.1.cls ≠ "java/lang/invoke/MethodHandle" ∧ mt'.1.cls ≠ "java/lang/invoke/VarHandle" ∧ (parseMethodDescriptor mt'.1.desc).map (fun d => d.parameters.length) = some n) ∧ mt'.2.2.1 ≤ 45
def kLN (mt mt' : kMt) (idx n : Nat) (host : String) : Prop :=
  Cond.methodLinkNest mt.1.cls idx mt'.1 host ∈ kNest ∧ Cond.static mt'.1 ∈ TW ∧ Cond.initialized mt'.1.cls ∈ TW ∧ Cond.code mt'.1 mt'.2.1 mt'.2.2.1 mt'.2.2.2 ∈ TW ∧
  (mt'.1.cls ≠ "java/lang/invoke/MethodHandle" ∧ mt'.1.cls ≠ "java/lang/invoke/VarHandle" ∧ (parseMethodDescriptor mt'.1.desc).map (fun d => d.parameters.length) = some n) ∧ mt'.2.2.1 ≤ 45
theorem wp_cV {G : kG} {d : Nat} {mt : kMt} {E : kEv} {pc : Nat} {ls : List Value} {h : kM} {mt' : kMt} {idx ci k : Nat} (e' n : Nat) (As rest : List Value) {stk : List Value} (pc' : Nat) (hd : decode mt.2.1 pc = .ok (.invokevirtual idx, 3)) (hp : pc + 3 = pc') (hw : kLV mt mt' idx n) (he : e' + 1 ≤ d) (hkd : kd k = (0, ci)) (hC : (vwCl[ci]?).map (fun q => q.1) = some mt'.1.cls) (hn : As.length = n) (hs : stk = As.reverse ++ .ref k :: rest) (hst : (rest.map fun v => v.category).sum ≤ 8)
    (hc : Cal G e' mt' (.ref k :: As) h (fun x h' => Wp G d mt E pc' ls (kPush mt'.2.2.2 x rest) h')) : Wp G d mt E pc ls stk h := by
  subst hp
  subst hs
  intro hO p e s m args below meth c H locs lsC X hP hS hl
  obtain ⟨w1, w2, w3, w4, w5, w6, w7⟩ := hw
  have hcell := kW_at G h (kd_lt hkd (by decide))
  rw [kE_obj hkd] at hcell
  obtain ⟨q, hq, hqc⟩ : ∃ q, vwCl[ci]? = some q ∧ q.1 = mt'.1.cls := by
    cases hh : vwCl[ci]? with
    | none => rw [hh] at hC; cases hC
    | some q => rw [hh] at hC; exact ⟨q, rfl, Option.some.inj hC⟩
  have hGood : GoodIn (kws mt) (wsV mt.1.cls idx mt'.1.cls mt'.1 (kws mt')) := by
    intro w hw
    have hw2 : w ∈ ([.methodLink mt.1.cls idx mt'.1, .instanceMethod mt'.1, .selects mt'.1.cls mt'.1 mt'.1, .initialized mt'.1.cls] : List Cond) ++ kws mt' := hw
    rcases List.mem_append.mp hw2 with h1 | h1
    · have h2 : w ∈ TW := by
        simp only [List.mem_cons, List.not_mem_nil, or_false] at h1
        rcases h1 with rfl | rfl | rfl | rfl
        · exact w1
        · exact w2
        · exact w3
        · exact w4
      exact ⟨List.mem_cons_of_mem _ h2, good_of_word (tw_good h2)⟩
    · exact kws_good w5 (fun w q => List.mem_cons_of_mem _ q) w h1
  have hO1 := hO.1
  have hO2 := hO.2.1
  refine kcall (G := G) (ret := mt'.2.2.2) (va_runV (As := As.map (kc G)) (rest := rest.map (kc G)) (b := kad G k) (n := n) ⟨X.1, X.2.1, X.2.2.1, X.2.2.2.1, X.2.2.2.2.1⟩ hc (cwV n X.2.2.2.2.1 hGood rfl rfl rfl ⟨rfl, w6⟩ ⟨Nat.le_trans he hO1, ?_⟩) ⟨kB_blind, ?_, fun U hU hW => ⟨rfl, kB_pre X.2.2.2.2.2.2.2.1 hP hS hU hW⟩⟩ rfl (by simpa using hn) hl.1 ?_ (lv_room (by rw [kc_sum]; exact hst)) hd ⟨hO.2.2.1, hO.2.2.2⟩) hS (fun x h' H1 locs1 hq2 hP1 hS1 => ?_)
  · show 8 + (mt'.2.2.1 + 11) + 64 * e' ≤ E.1.locals
    omega
  · rw [← hqc]
    exact va_recv X.2.2.2.2.2.2.2.1.2.1.1 hP hq hcell
  · simp [kc]
  · rw [kPush_c]
    exact hq2 hO p e s m args below meth c H1 locs1 lsC X hP1 hS1 hl
theorem wp_cS {G : kG} {d : Nat} {mt : kMt} {E : kEv} {pc : Nat} {ls : List Value} {h : kM} {mt' : kMt} {idx : Nat} (e' n : Nat) (As rest : List Value) {stk : List Value} (pc' : Nat) (hd : decode mt.2.1 pc = .ok (.invokestatic idx, 3)) (hp : pc + 3 = pc') (hw : kLS mt mt' idx n) (he : e' + 1 ≤ d) (hn : As.length = n) (hs : stk = As.reverse ++ rest) (hst : (rest.map fun v => v.category).sum ≤ 8)
    (hc : Cal G e' mt' As h (fun x h' => Wp G d mt E pc' ls (kPush mt'.2.2.2 x rest) h')) : Wp G d mt E pc ls stk h := by
  subst hp
  subst hs
  intro hO p e s m args below meth c H locs lsC X hP hS hl
  obtain ⟨w1, w2, w4, w5, w6, w7⟩ := hw
  have hGood : GoodIn (kws mt) (va_wsS mt.1.cls idx mt'.1 (kws mt')) := by
    intro w hw
    have hw2 : w ∈ ([.methodLink mt.1.cls idx mt'.1, .static mt'.1, .initialized mt'.1.cls] : List Cond) ++ kws mt' := hw
    rcases List.mem_append.mp hw2 with h1 | h1
    · have h2 : w ∈ TW := by
        simp only [List.mem_cons, List.not_mem_nil, or_false] at h1
        rcases h1 with rfl | rfl | rfl
        · exact w1
        · exact w2
        · exact w4
      exact ⟨List.mem_cons_of_mem _ h2, good_of_word (tw_good h2)⟩
    · exact kws_good w5 (fun w q => List.mem_cons_of_mem _ q) w h1
  have hO1 := hO.1
  have hO2 := hO.2.1
  refine kcall (G := G) (ret := mt'.2.2.2) (va_runS (As := As.map (kc G)) (rest := rest.map (kc G)) (n := n) ⟨X.1, X.2.1, X.2.2.1, X.2.2.2.1, X.2.2.2.2.1⟩ hc (va_cwS n X.2.2.2.2.1 hGood rfl rfl rfl w6 ⟨Nat.le_trans he hO1, ?_⟩) ⟨kB_blind, fun U hU hW => ⟨rfl, kB_pre X.2.2.2.2.2.2.2.1 hP hS hU hW⟩⟩ rfl (by simpa using hn) hl.1 ?_ (lv_room (by rw [kc_sum]; exact hst)) hd ⟨hO.2.2.1, hO.2.2.2⟩) hS (fun x h' H1 locs1 hq2 hP1 hS1 => ?_)
  · show 8 + (mt'.2.2.1 + 11) + 64 * e' ≤ E.1.locals
    omega
  · simp
  · rw [kPush_c]
    exact hq2 hO p e s m args below meth c H1 locs1 lsC X hP1 hS1 hl
theorem wp_cN {G : kG} {d : Nat} {mt : kMt} {E : kEv} {pc : Nat} {ls : List Value} {h : kM} {mt' : kMt} {idx : Nat} {host : String} (e' n : Nat) (As rest : List Value) {stk : List Value} (pc' : Nat) (hd : decode mt.2.1 pc = .ok (.invokestatic idx, 3)) (hp : pc + 3 = pc') (hw : kLN mt mt' idx n host) (he : e' + 1 ≤ d) (hn : As.length = n) (hs : stk = As.reverse ++ rest) (hst : (rest.map fun v => v.category).sum ≤ 8)
    (hc : Cal G e' mt' As h (fun x h' => Wp G d mt E pc' ls (kPush mt'.2.2.2 x rest) h')) : Wp G d mt E pc ls stk h := by
  subst hp
  subst hs
  intro hO p e s m args below meth c H locs lsC X hP hS hl
  obtain ⟨w1, w2, w4, w5, w6, w7⟩ := hw
  have hO1 := hO.1
  have hO2 := hO.2.1
  have hws := fun w q => X.2.2.2.2.1 w (List.mem_cons_of_mem _ q)
  refine kcall (G := G) (ret := mt'.2.2.2) (va_runSN (host := host) (As := As.map (kc G)) (rest := rest.map (kc G)) (n := n) ⟨X.1, X.2.1, X.2.2.1, X.2.2.2.1, X.2.2.2.2.1⟩ hc ⟨va_cnB n X.2.2.2.2.1 (kws_good w5 (fun w q => List.mem_cons_of_mem _ q)) rfl rfl rfl (X.2.2.2.2.2.2.2.1.2.1.2.1 _ w1) (hws _ w4) w6 ⟨Nat.le_trans he hO1, ?_⟩, hws _ w2, trivial⟩ ⟨kB_blind, fun U hU hW => ⟨rfl, kB_pre X.2.2.2.2.2.2.2.1 hP hS hU hW⟩⟩ rfl (by simpa using hn) hl.1 ?_ (lv_room (by rw [kc_sum]; exact hst)) hd ⟨hO.2.2.1, hO.2.2.2⟩) hS (fun x h' H1 locs1 hq2 hP1 hS1 => ?_)
  · show 8 + (mt'.2.2.1 + 11) + 64 * e' ≤ E.1.locals
    omega
  · simp
  · rw [kPush_c]
    exact hq2 hO p e s m args below meth c H1 locs1 lsC X hP1 hS1 hl
/-! returns -/
theorem wp_reti {G : kG} {d : Nat} {mt : kMt} {Q : Int32 → kM → Prop} {pc : Nat} {ls : List Value} {h : kM} {x : Int32} (hd : decode mt.2.1 pc = .ok (.ireturn, 1)) (hr : mt.2.2.2 = some .int) (hq : Q x h) : Wp G d mt (kEo G d mt Q) pc ls [.int x] h := by
  intro hO p e s m args below meth c H locs lsC X hP hS hl
  exact W.zret X.1 X.2.1 (by rw [X.2.2.2.2.2.2.1, hr]) rfl (fun t ht _ => ⟨⟨x, h, by rw [hr]; rfl, hq, by rw [ht]; exact hP⟩, hS.F ht⟩) hS.2.2 hd X.2.2.2.2.2.1
theorem wp_retz {G : kG} {d : Nat} {mt : kMt} {Q : Int32 → kM → Prop} {pc : Nat} {ls : List Value} {h : kM} {x : Int32} (hd : decode mt.2.1 pc = .ok (.ireturn, 1)) (hr : mt.2.2.2 = some .boolean) (hz : x = 0 ∨ x = 1) (hq : Q x h) : Wp G d mt (kEo G d mt Q) pc ls [.int x] h := by
  intro hO p e s m args below meth c H locs lsC X hP hS hl
  exact W.zret (ty := .boolean) X.1 X.2.1 (by rw [X.2.2.2.2.2.2.1, hr]) (by rcases hz with rfl | rfl <;> rfl) (fun t ht _ => ⟨⟨x, h, by rw [hr]; rfl, hq, by rw [ht]; exact hP⟩, hS.F ht⟩) hS.2.2 hd X.2.2.2.2.2.1
theorem wp_retv {G : kG} {d : Nat} {mt : kMt} {Q : Int32 → kM → Prop} {pc : Nat} {ls : List Value} {h : kM} (hd : decode mt.2.1 pc = .ok (.return_, 1)) (hr : mt.2.2.2 = none) (hq : Q 0 h) : Wp G d mt (kEo G d mt Q) pc ls [] h := by
  intro hO p e s m args below meth c H locs lsC X hP hS hl
  exact W.vret X.1 X.2.1 (by rw [X.2.2.2.2.2.2.1, hr]) (fun t ht _ => ⟨⟨0, h, by rw [hr]; rfl, hq, by rw [ht]; exact hP⟩, hS.F ht⟩) hS.2.2 hd X.2.2.2.2.2.1
theorem wp_reta {G : kG} {d : Nat} {mt : kMt} {Q : Int32 → kM → Prop} {pc : Nat} {ls : List Value} {h : kM} {k : Nat} {C : String} (x : Int32) (hd : decode mt.2.1 pc = .ok (.areturn, 1)) (hr : mt.2.2.2 = some (.object C)) (hx : x.toNatClampNeg = k) (hq : Q x h) : Wp G d mt (kEo G d mt Q) pc ls [.ref k] h := by
  subst hx
  intro hO p e s m args below meth c H locs lsC X hP hS hl
  exact W.aret (rt := .object C) X.1 X.2.1 (by rw [X.2.2.2.2.2.2.1, hr]) (Or.inl ⟨C, rfl⟩) (Or.inr ⟨_, rfl⟩) (fun t ht _ => ⟨⟨x, h, by rw [hr]; rfl, hq, by rw [ht]; exact hP⟩, hS.F ht⟩) hS.2.2 hd X.2.2.2.2.2.1
