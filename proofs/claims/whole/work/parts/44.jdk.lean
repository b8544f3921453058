/-! the JDK's String.indexOf over the two Strings, walked like the program's own methods -/
def kB3 (i : Nat) : List Int32 := ([[104, 119, 109], [107, 109, 110]] : List (List Int32)).getD i []
def kIxN (i : Nat) (c : Int32) : Int32 := if (kB3 i).getD 0 0 = c then 0 else if (kB3 i).getD 1 0 = c then 1 else if (kB3 i).getD 2 0 = c then 2 else -1
def kIx (n c : Int32) : Int32 := kIxN n.toNatClampNeg c
theorem k33 {i : Nat} (hi : i < 2) : ([3, 3] : List Nat).getD i 0 = 3 := by
  match i, hi with
  | 0, _ => rfl
  | 1, _ => rfl

abbrev m_ix1 : kMt := (yJ0_indexOf_0f7a4, cJ0_indexOf_0f7a4, 2, some .int)
theorem mi_m_ix1 : Cond.instanceMethod m_ix1.1 ∈ TW ∧ Cond.selects m_ix1.1.cls m_ix1.1 m_ix1.1 ∈ TW ∧ Cond.initialized m_ix1.1.cls ∈ TW ∧ Cond.code m_ix1.1 m_ix1.2.1 m_ix1.2.2.1 m_ix1.2.2.2 ∈ TW ∧ (m_ix1.1.cls ≠ "java/lang/invoke/MethodHandle" ∧ m_ix1.1.cls ≠ "java/lang/invoke/VarHandle" ∧ (parseMethodDescriptor m_ix1.1.desc).map (fun d => d.parameters.length) = some 1) ∧ m_ix1.2.2.1 ≤ 45 := ⟨tw_mem (List.mem_of_getElem? (i := 594) (by decide +kernel)) rfl, tw_mem (List.mem_of_getElem? (i := 595) (by decide +kernel)) rfl, tw_mem (List.mem_of_getElem? (i := 87) (by decide +kernel)) rfl, tw_mem (List.mem_of_getElem? (i := 596) (by decide +kernel)) rfl, ⟨by decide +kernel, by decide +kernel, by decide +kernel⟩, by decide⟩
abbrev m_ix2 : kMt := (yJ0_indexOf_7cf53, cJ0_indexOf_7cf53, 3, some .int)
theorem mi_m_ix2 : Cond.instanceMethod m_ix2.1 ∈ TW ∧ Cond.selects m_ix2.1.cls m_ix2.1 m_ix2.1 ∈ TW ∧ Cond.initialized m_ix2.1.cls ∈ TW ∧ Cond.code m_ix2.1 m_ix2.2.1 m_ix2.2.2.1 m_ix2.2.2.2 ∈ TW ∧ (m_ix2.1.cls ≠ "java/lang/invoke/MethodHandle" ∧ m_ix2.1.cls ≠ "java/lang/invoke/VarHandle" ∧ (parseMethodDescriptor m_ix2.1.desc).map (fun d => d.parameters.length) = some 2) ∧ m_ix2.2.2.1 ≤ 45 := ⟨tw_mem (List.mem_of_getElem? (i := 598) (by decide +kernel)) rfl, tw_mem (List.mem_of_getElem? (i := 599) (by decide +kernel)) rfl, tw_mem (List.mem_of_getElem? (i := 87) (by decide +kernel)) rfl, tw_mem (List.mem_of_getElem? (i := 600) (by decide +kernel)) rfl, ⟨by decide +kernel, by decide +kernel, by decide +kernel⟩, by decide⟩
abbrev m_lat : kMt := (yJ0_isLatin1_aae02, cJ0_isLatin1_aae02, 1, some .boolean)
theorem mi_m_lat : Cond.instanceMethod m_lat.1 ∈ TW ∧ Cond.selects m_lat.1.cls m_lat.1 m_lat.1 ∈ TW ∧ Cond.initialized m_lat.1.cls ∈ TW ∧ Cond.code m_lat.1 m_lat.2.1 m_lat.2.2.1 m_lat.2.2.2 ∈ TW ∧ (m_lat.1.cls ≠ "java/lang/invoke/MethodHandle" ∧ m_lat.1.cls ≠ "java/lang/invoke/VarHandle" ∧ (parseMethodDescriptor m_lat.1.desc).map (fun d => d.parameters.length) = some 0) ∧ m_lat.2.2.1 ≤ 45 := ⟨tw_mem (List.mem_of_getElem? (i := 602) (by decide +kernel)) rfl, tw_mem (List.mem_of_getElem? (i := 603) (by decide +kernel)) rfl, tw_mem (List.mem_of_getElem? (i := 87) (by decide +kernel)) rfl, tw_mem (List.mem_of_getElem? (i := 604) (by decide +kernel)) rfl, ⟨by decide +kernel, by decide +kernel, by decide +kernel⟩, by decide⟩
abbrev m_len : kMt := (yJ0_length_8abf5, cJ0_length_8abf5, 1, some .int)
theorem mi_m_len : Cond.instanceMethod m_len.1 ∈ TW ∧ Cond.selects m_len.1.cls m_len.1 m_len.1 ∈ TW ∧ Cond.initialized m_len.1.cls ∈ TW ∧ Cond.code m_len.1 m_len.2.1 m_len.2.2.1 m_len.2.2.2 ∈ TW ∧ (m_len.1.cls ≠ "java/lang/invoke/MethodHandle" ∧ m_len.1.cls ≠ "java/lang/invoke/VarHandle" ∧ (parseMethodDescriptor m_len.1.desc).map (fun d => d.parameters.length) = some 0) ∧ m_len.2.2.1 ≤ 45 := ⟨tw_mem (List.mem_of_getElem? (i := 608) (by decide +kernel)) rfl, tw_mem (List.mem_of_getElem? (i := 609) (by decide +kernel)) rfl, tw_mem (List.mem_of_getElem? (i := 87) (by decide +kernel)) rfl, tw_mem (List.mem_of_getElem? (i := 610) (by decide +kernel)) rfl, ⟨by decide +kernel, by decide +kernel, by decide +kernel⟩, by decide⟩
abbrev m_cod : kMt := (yJ0_coder_7d493, cJ0_coder_7d493, 1, some .byte)
theorem mi_m_cod : Cond.instanceMethod m_cod.1 ∈ TW ∧ Cond.selects m_cod.1.cls m_cod.1 m_cod.1 ∈ TW ∧ Cond.initialized m_cod.1.cls ∈ TW ∧ Cond.code m_cod.1 m_cod.2.1 m_cod.2.2.1 m_cod.2.2.2 ∈ TW ∧ (m_cod.1.cls ≠ "java/lang/invoke/MethodHandle" ∧ m_cod.1.cls ≠ "java/lang/invoke/VarHandle" ∧ (parseMethodDescriptor m_cod.1.desc).map (fun d => d.parameters.length) = some 0) ∧ m_cod.2.2.1 ≤ 45 := ⟨tw_mem (List.mem_of_getElem? (i := 612) (by decide +kernel)) rfl, tw_mem (List.mem_of_getElem? (i := 613) (by decide +kernel)) rfl, tw_mem (List.mem_of_getElem? (i := 87) (by decide +kernel)) rfl, tw_mem (List.mem_of_getElem? (i := 614) (by decide +kernel)) rfl, ⟨by decide +kernel, by decide +kernel, by decide +kernel⟩, by decide⟩
abbrev m_lix : kMt := (yJ1_indexOf_4cfef, cJ1_indexOf_4cfef, 4, some .int)
theorem mi_m_lix : Cond.static m_lix.1 ∈ TW ∧ Cond.initialized m_lix.1.cls ∈ TW ∧ Cond.code m_lix.1 m_lix.2.1 m_lix.2.2.1 m_lix.2.2.2 ∈ TW ∧ (m_lix.1.cls ≠ "java/lang/invoke/MethodHandle" ∧ m_lix.1.cls ≠ "java/lang/invoke/VarHandle" ∧ (parseMethodDescriptor m_lix.1.desc).map (fun d => d.parameters.length) = some 4) ∧ m_lix.2.2.1 ≤ 45 := ⟨tw_mem (List.mem_of_getElem? (i := 616) (by decide +kernel)) rfl, tw_mem (List.mem_of_getElem? (i := 88) (by decide +kernel)) rfl, tw_mem (List.mem_of_getElem? (i := 617) (by decide +kernel)) rfl, ⟨by decide +kernel, by decide +kernel, by decide +kernel⟩, by decide⟩
abbrev m_can : kMt := (yJ1_canEncode_9a6ad, cJ1_canEncode_9a6ad, 1, some .boolean)
theorem mi_m_can : Cond.static m_can.1 ∈ TW ∧ Cond.initialized m_can.1.cls ∈ TW ∧ Cond.code m_can.1 m_can.2.1 m_can.2.2.1 m_can.2.2.2 ∈ TW ∧ (m_can.1.cls ≠ "java/lang/invoke/MethodHandle" ∧ m_can.1.cls ≠ "java/lang/invoke/VarHandle" ∧ (parseMethodDescriptor m_can.1.desc).map (fun d => d.parameters.length) = some 1) ∧ m_can.2.2.1 ≤ 45 := ⟨tw_mem (List.mem_of_getElem? (i := 619) (by decide +kernel)) rfl, tw_mem (List.mem_of_getElem? (i := 88) (by decide +kernel)) rfl, tw_mem (List.mem_of_getElem? (i := 620) (by decide +kernel)) rfl, ⟨by decide +kernel, by decide +kernel, by decide +kernel⟩, by decide⟩
abbrev m_ich : kMt := (yJ1_indexOfChar_4cfef, cJ1_indexOfChar_4cfef, 6, some .int)
theorem mi_m_ich : Cond.static m_ich.1 ∈ TW ∧ Cond.initialized m_ich.1.cls ∈ TW ∧ Cond.code m_ich.1 m_ich.2.1 m_ich.2.2.1 m_ich.2.2.2 ∈ TW ∧ (m_ich.1.cls ≠ "java/lang/invoke/MethodHandle" ∧ m_ich.1.cls ≠ "java/lang/invoke/VarHandle" ∧ (parseMethodDescriptor m_ich.1.desc).map (fun d => d.parameters.length) = some 4) ∧ m_ich.2.2.1 ≤ 45 := ⟨tw_mem (List.mem_of_getElem? (i := 624) (by decide +kernel)) rfl, tw_mem (List.mem_of_getElem? (i := 88) (by decide +kernel)) rfl, tw_mem (List.mem_of_getElem? (i := 625) (by decide +kernel)) rfl, ⟨by decide +kernel, by decide +kernel, by decide +kernel⟩, by decide⟩
theorem ix_X1_88 {mt : kMt} (h : mt.1.cls = RX1) : kLV mt m_ix1 88 1 := ⟨by rw [h]; exact tw_mem (List.mem_of_getElem? (i := 593) (by decide +kernel)) rfl, mi_m_ix1⟩
theorem lj_633 {mt : kMt} (h : mt.1.cls = RJ0) : kLV mt m_ix2 633 2 := ⟨by rw [h]; exact tw_mem (List.mem_of_getElem? (i := 597) (by decide +kernel)) rfl, mi_m_ix2⟩
theorem lj_492 {mt : kMt} (h : mt.1.cls = RJ0) : kLV mt m_lat 492 0 := ⟨by rw [h]; exact tw_mem (List.mem_of_getElem? (i := 601) (by decide +kernel)) rfl, mi_m_lat⟩
theorem lj_505 {mt : kMt} (h : mt.1.cls = RJ0) : kLV mt m_len 505 0 := ⟨by rw [h]; exact tw_mem (List.mem_of_getElem? (i := 607) (by decide +kernel)) rfl, mi_m_len⟩
theorem lj_335 {mt : kMt} (h : mt.1.cls = RJ0) : kLV mt m_cod 335 0 := ⟨by rw [h]; exact tw_mem (List.mem_of_getElem? (i := 611) (by decide +kernel)) rfl, mi_m_cod⟩
theorem lj_637 {mt : kMt} (h : mt.1.cls = RJ0) : kLS mt m_lix 637 4 := ⟨by rw [h]; exact tw_mem (List.mem_of_getElem? (i := 615) (by decide +kernel)) rfl, mi_m_lix⟩
theorem lj_88 {mt : kMt} (h : mt.1.cls = RJ1) : kLS mt m_can 88 1 := ⟨by rw [h]; exact tw_mem (List.mem_of_getElem? (i := 618) (by decide +kernel)) rfl, mi_m_can⟩
theorem lj_95 {mt : kMt} (h : mt.1.cls = RJ1) : kLS mt m_ich 95 4 := ⟨by rw [h]; exact tw_mem (List.mem_of_getElem? (i := 623) (by decide +kernel)) rfl, mi_m_ich⟩
theorem lj_max {mt : kMt} (h : mt.1.cls = RJ1) : Cond.methodLink mt.1.cls 92 Lib.Math.max.name ∈ TW ∧ Cond.static Lib.Math.max.name ∈ TW ∧ Cond.initialized "java/lang/Math" ∈ TW ∧ Cond.code Lib.Math.max.name Lib.Math.max.code 2 (some .int) ∈ TW := ⟨by rw [h]; exact tw_mem (List.mem_of_getElem? (i := 621) (by decide +kernel)) rfl, tw_mem (by decide +kernel) rfl, tw_mem (by decide +kernel) rfl, tw_mem (by decide +kernel) rfl⟩
theorem lj_min {mt : kMt} (h : mt.1.cls = RJ1) : Cond.methodLink mt.1.cls 38 Lib.Math.min.name ∈ TW ∧ Cond.static Lib.Math.min.name ∈ TW ∧ Cond.initialized "java/lang/Math" ∈ TW ∧ Cond.code Lib.Math.min.name Lib.Math.min.code 2 (some .int) ∈ TW := ⟨by rw [h]; exact tw_mem (List.mem_of_getElem? (i := 622) (by decide +kernel)) rfl, tw_mem (by decide +kernel) rfl, tw_mem (by decide +kernel) rfl, tw_mem (by decide +kernel) rfl⟩
theorem wp_cod {G : kG} {d : Nat} {mt : kMt} {E : kEv} {pc : Nat} {ls st : List Value} {h : kM} {i : Nat} (pc' : Nat) (hd : decode mt.2.1 pc = .ok (.getfield 15, 3)) (hp : pc + 3 = pc') (hc : mt.1.cls = RJ0) (hi : i < 2) (kk : Wp G d mt E pc' ls (.int 0 :: st) h) : Wp G d mt E pc ls (.ref (1000 + i) :: st) h := by
  subst hp
  intro hO p e s m args below meth c H locs lsC X hP hS hl
  have ho := X.2.2.2.1
  rw [hc] at ho
  exact vk_getf X.1 X.2.1 (X.2.2.2.2.2.2.2.1.2.2.2.2.2.2.2.1 i hi).2.1 hS ho (X.2.2.2.2.1 _ (List.mem_cons_of_mem _ (tw_mem (List.mem_of_getElem? (i := 1404) (by decide +kernel)) rfl))) (fun _ q => q) hd (kk hO p e s m args below meth c H locs lsC X hP hS hl)
theorem wp_val {G : kG} {d : Nat} {mt : kMt} {E : kEv} {pc : Nat} {ls st : List Value} {h : kM} {i : Nat} (pc' : Nat) (hd : decode mt.2.1 pc = .ok (.getfield 9, 3)) (hp : pc + 3 = pc') (hc : mt.1.cls = RJ0) (hi : i < 2) (kk : Wp G d mt E pc' ls (.ref (1010 + i) :: st) h) : Wp G d mt E pc ls (.ref (1000 + i) :: st) h := by
  subst hp
  intro hO p e s m args below meth c H locs lsC X hP hS hl
  have ho := X.2.2.2.1
  rw [hc] at ho
  exact vk_getf X.1 X.2.1 (X.2.2.2.2.2.2.2.1.2.2.2.2.2.2.2.1 i hi).2.2.1 hS ho (X.2.2.2.2.1 _ (List.mem_cons_of_mem _ (tw_mem (List.mem_of_getElem? (i := 1405) (by decide +kernel)) rfl))) (fun _ q => q) hd (kk hO p e s m args below meth c H locs lsC X hP hS hl)
theorem wp_cps {G : kG} {d : Nat} {mt : kMt} {E : kEv} {pc : Nat} {ls st : List Value} {h : kM} (pc' : Nat) (hd : decode mt.2.1 pc = .ok (.getstatic 38, 3)) (hp : pc + 3 = pc') (hc : mt.1.cls = RJ0) (kk : Wp G d mt E pc' ls (.int 1 :: st) h) : Wp G d mt E pc ls st h := by
  subst hp
  intro hO p e s m args below meth c H locs lsC X hP hS hl
  have ho := X.2.2.2.1
  rw [hc] at ho
  exact va_gets X.1 X.2.1 X.2.2.2.2.2.2.2.1.2.2.2.2.2.2.1 hS ho (X.2.2.2.2.1 _ (List.mem_cons_of_mem _ (tw_mem (List.mem_of_getElem? (i := 605) (by decide +kernel)) rfl))) (fun _ q => q) hd (kk hO p e s m args below meth c H locs lsC X hP hS hl)
theorem wp_blen {G : kG} {d : Nat} {mt : kMt} {E : kEv} {pc : Nat} {ls st : List Value} {h : kM} {i : Nat} (pc' : Nat) (hd : decode mt.2.1 pc = .ok (.arraylength, 1)) (hp : pc + 1 = pc') (hi : i < 2) (kk : Wp G d mt E pc' ls (.int 3 :: st) h) : Wp G d mt E pc ls (.ref (1010 + i) :: st) h := by
  subst hp
  intro hO p e s m args below meth c H locs lsC X hP hS hl
  exact va_tlen X.1 X.2.1 (X.2.2.2.2.2.2.2.1.2.2.2.2.2.2.2.1 i hi).2.2.2 hS (by rw [k33 hi]; rfl) hd (kk hO p e s m args below meth c H locs lsC X hP hS hl)
theorem wp_bald {G : kG} {d : Nat} {mt : kMt} {E : kEv} {pc : Nat} {ls st : List Value} {h : kM} {i : Nat} {x : Int32} (pc' : Nat) (hd : decode mt.2.1 pc = .ok (.baload, 1)) (hp : pc + 1 = pc') (hi : i < 2) (hin : vp_in x 3) (kk : Wp G d mt E pc' ls (.int ((kB3 i).getD x.toNatClampNeg 0) :: st) h) : Wp G d mt E pc ls (.int x :: .ref (1010 + i) :: st) h := by
  subst hp
  intro hO p e s m args below meth c H locs lsC X hP hS hl
  exact va_tb X.1 X.2.1 (X.2.2.2.2.2.2.2.1.2.2.2.2.2.2.2.1 i hi).2.2.2 hS (by rw [k33 hi]; exact hin) rfl hd (kk hO p e s m args below meth c H locs lsC X hP hS hl)
theorem wp_i2b {G : kG} {d : Nat} {mt : kMt} {E : kEv} {pc : Nat} {ls st : List Value} {h : kM} {x : Int32} (pc' : Nat) (hd : decode mt.2.1 pc = .ok (.i2b, 1)) (hp : pc + 1 = pc') (kk : Wp G d mt E pc' ls (.int x.toInt8.toInt32 :: st) h) : Wp G d mt E pc ls (.int x :: st) h := by
  subst hp
  intro hO p e s m args below meth c H locs lsC X hP hS hl
  exact lv_i2b X.1 X.2.1 hd rfl (kk hO p e s m args below meth c H locs lsC X hP hS hl)
theorem wp_retb {G : kG} {d : Nat} {mt : kMt} {Q : Int32 → kM → Prop} {pc : Nat} {ls : List Value} {h : kM} (hd : decode mt.2.1 pc = .ok (.ireturn, 1)) (hr : mt.2.2.2 = some .byte) (hq : Q 0 h) : Wp G d mt (kEo G d mt Q) pc ls [.int 0] h := by
  intro hO p e s m args below meth c H locs lsC X hP hS hl
  exact W.zret (ty := .byte) X.1 X.2.1 (by rw [X.2.2.2.2.2.2.1, hr]) rfl (fun t ht _ => ⟨⟨0, h, by rw [hr]; rfl, hq, by rw [ht]; exact hP⟩, hS.F ht⟩) hS.2.2 hd X.2.2.2.2.2.1
theorem wp_jV {G : kG} {d : Nat} {mt : kMt} {E : kEv} {pc : Nat} {ls : List Value} {h : kM} {mt' : kMt} {idx i : Nat} (e' n : Nat) (As rest : List Value) {stk : List Value} (pc' : Nat) (hd : decode mt.2.1 pc = .ok (.invokevirtual idx, 3)) (hp : pc + 3 = pc') (hw : kLV mt mt' idx n) (he : e' + 1 ≤ d) (hi : i < 2) (hC : mt'.1.cls = "java/lang/String") (hn : As.length = n) (hs : stk = As.reverse ++ .ref (1000 + i) :: rest) (hst : (rest.map fun v => v.category).sum ≤ 8)
    (hc : Cal G e' mt' (.ref (1000 + i) :: As) h (fun x h' => Wp G d mt E pc' ls (kPush mt'.2.2.2 x rest) h')) : Wp G d mt E pc ls stk h := by
  subst hp
  subst hs
  intro hO p e s m args below meth c H locs lsC X hP hS hl
  obtain ⟨w1, w2, w3, w4, w5, w6, w7⟩ := hw
  have hGood : GoodIn (kws mt) (wsV mt.1.cls idx mt'.1.cls mt'.1 (kws mt')) := by
    intro w hw
    have hw2 : w ∈ ([.methodLink mt.1.cls idx mt'.1, .instanceMethod mt'.1, .selects mt'.1.cls mt'.1 mt'.1, .initialized mt'.1.cls] : List Cond) ++ kws mt' := hw
    rcases List.mem_append.mp hw2 with h1 | h1
    · have h2 : w ∈ TW := by
        simp only [List.mem_cons, List.not_mem_nil, or_false] at h1
        rcases h1 with rfl | rfl | rfl | rfl
        · exact w1
        · exact w2
        · exact w3
        · exact w4
      exact ⟨List.mem_cons_of_mem _ h2, good_of_word (tw_good h2)⟩
    · exact kws_good w5 (fun w q => List.mem_cons_of_mem _ q) w h1
  have hO1 := hO.1
  have hO2 := hO.2.1
  refine kcall (G := G) (ret := mt'.2.2.2) (va_runV (As := As.map (kc G)) (rest := rest.map (kc G)) (b := kad G (1000 + i)) (n := n) ⟨X.1, X.2.1, X.2.2.1, X.2.2.2.1, X.2.2.2.2.1⟩ hc (cwV n X.2.2.2.2.1 hGood rfl rfl rfl ⟨rfl, w6⟩ ⟨Nat.le_trans he hO1, ?_⟩) ⟨kB_blind, ?_, fun U hU hW => ⟨rfl, kB_pre X.2.2.2.2.2.2.2.1 hP hS hU hW⟩⟩ rfl (by simpa using hn) hl.1 ?_ (lv_room (by rw [kc_sum]; exact hst)) hd ⟨hO.2.2.1, hO.2.2.2⟩) hS (fun x h' H1 locs1 hq2 hP1 hS1 => ?_)
  · show 8 + (mt'.2.2.1 + 11) + 64 * e' ≤ E.1.locals
    omega
  · rw [hC]
    exact vk_recv (adK := fun i => kad G (1000 + i)) (adV := fun i => kad G (1010 + i)) X.2.2.2.2.2.2.2.1.2.2.2.2.2.2.2 hi hS
  · simp [kc]
  · rw [kPush_c]
    exact hq2 hO p e s m args below meth c H1 locs1 lsC X hP1 hS1 hl

theorem kb3_i2b {c b : Int32} (h0 : ¬ c < 0) (h1 : ¬ 255 < c) (hb : b ∈ ([104, 119, 109, 107, 110] : List Int32)) : b = c.toInt8.toInt32 ↔ b = c := by
  have e0 : 0 ≤ c.toInt := by
    have := Int32.not_lt.mp h0
    rw [Int32.le_iff_toInt_le] at this
    exact this
  have e1 : c.toInt < 256 := by
    have := Int32.not_lt.mp h1
    rw [Int32.le_iff_toInt_le] at this
    have q : (255 : Int32).toInt = 255 := by decide
    omega
  obtain ⟨j, hj, rfl⟩ := vp_in_of (n := 256) (vp_in_iff.mpr ⟨e0, e1⟩) (by decide)
  have hA : ∀ k, k < 256 → ∀ b ∈ ([104, 119, 109, 107, 110] : List Int32), b = (nI k).toInt8.toInt32 ↔ b = nI k := by decide +kernel
  exact hA j hj b hb
theorem kB3_mem {i j : Nat} (hi : i < 2) (hj : j < 3) : (kB3 i).getD j 0 ∈ ([104, 119, 109, 107, 110] : List Int32) := by
  have hA : ∀ i, i < 2 → ∀ j, j < 3 → (kB3 i).getD j 0 ∈ ([104, 119, 109, 107, 110] : List Int32) := by decide +kernel
  exact hA i hi j hj
theorem kIxN_i2b {i : Nat} {c : Int32} (hi : i < 2) (h0 : ¬ c < 0) (h1 : ¬ 255 < c) : kIxN i c.toInt8.toInt32 = kIxN i c := by
  unfold kIxN
  simp only [kb3_i2b h0 h1 (kB3_mem hi (by decide : 0 < 3)), kb3_i2b h0 h1 (kB3_mem hi (by decide : 1 < 3)), kb3_i2b h0 h1 (kB3_mem hi (by decide : 2 < 3))]
theorem kIxN_out {i : Nat} {c : Int32} (hi : i < 2) (hc : c < 0 ∨ 255 < c) : kIxN i c = -1 := by
  have hne : ∀ j, j < 3 → ¬ (kB3 i).getD j 0 = c := by
    intro j hj e
    have hA : ∀ b ∈ ([104, 119, 109, 107, 110] : List Int32), ¬ (b < 0 ∨ 255 < b) := by decide +kernel
    exact hA _ (kB3_mem hi hj) (by rw [e]; exact hc)
  unfold kIxN
  rw [if_neg (hne 0 (by decide)), if_neg (hne 1 (by decide)), if_neg (hne 2 (by decide))]
section Jdk
variable {G : kG} {d : Nat} {Q : Int32 → kM → Prop} {h : kM}
theorem sp_cod {i : Nat} (hi : i < 2) (k : Q 0 h) : Cal G d m_cod [.ref (1000 + i)] h Q := by
  refine Cal.of [.ref (1000 + i)] (by decide +kernel) (Nat.le_of_ble_eq_true rfl) rfl ?_
  refine wp_cps 3 dJ0_coder_7d493_0 rfl rfl ?_
  refine wp_if_eq 13 6 dJ0_coder_7d493_3 rfl rfl ⟨fun c => absurd c (by decide), fun _ => ?_⟩
  refine wp_aload_n 7 dJ0_coder_7d493_6 rfl rfl ?_
  refine wp_cod 10 dJ0_coder_7d493_7 rfl rfl hi ?_
  refine wp_goto 14 dJ0_coder_7d493_10 rfl ?_
  exact wp_retb dJ0_coder_7d493_14 rfl k
theorem sp_lat {i : Nat} (hi : i < 2) (k : Q 1 h) : Cal G d m_lat [.ref (1000 + i)] h Q := by
  refine Cal.of [.ref (1000 + i)] (by decide +kernel) (Nat.le_of_ble_eq_true rfl) rfl ?_
  refine wp_cps 3 dJ0_isLatin1_aae02_0 rfl rfl ?_
  refine wp_if_eq 17 6 dJ0_isLatin1_aae02_3 rfl rfl ⟨fun c => absurd c (by decide), fun _ => ?_⟩
  refine wp_aload_n 7 dJ0_isLatin1_aae02_6 rfl rfl ?_
  refine wp_cod 10 dJ0_isLatin1_aae02_7 rfl rfl hi ?_
  refine wp_if_ne 17 13 dJ0_isLatin1_aae02_10 rfl rfl ⟨fun c => absurd rfl c, fun _ => ?_⟩
  refine wp_iconst (1 : Int32) 14 dJ0_isLatin1_aae02_13 kiconst_1 rfl ?_
  refine wp_goto 18 dJ0_isLatin1_aae02_14 rfl ?_
  exact wp_retz dJ0_isLatin1_aae02_18 rfl (Or.inr rfl) k
theorem sp_len {i : Nat} (hd : 1 ≤ d) (hi : i < 2) (k : Q 3 h) : Cal G d m_len [.ref (1000 + i)] h Q := by
  refine Cal.of [.ref (1000 + i)] (by decide +kernel) (Nat.le_of_ble_eq_true rfl) rfl ?_
  refine wp_aload_n 1 dJ0_length_8abf5_0 rfl rfl ?_
  refine wp_val 4 dJ0_length_8abf5_1 rfl rfl hi ?_
  refine wp_blen 5 dJ0_length_8abf5_4 rfl hi ?_
  refine wp_aload_n 6 dJ0_length_8abf5_5 rfl rfl ?_
  refine wp_jV (d - 1) 0 [] [.int 3] 9 dJ0_length_8abf5_6 rfl (lj_335 rfl) (by omega) hi rfl rfl rfl (Nat.le_of_ble_eq_true rfl) (sp_cod hi ?_)
  refine wp_ishr 10 dJ0_length_8abf5_9 rfl ?_
  have e : (3 : Int32) >>> ((0 : Int32) &&& 31) = 3 := by decide
  rw [e]
  exact wp_reti dJ0_length_8abf5_10 rfl k
theorem sp_can {c : Int32} (k1 : ¬ c < 0 → ¬ 255 < c → Q 1 h) (k0 : c < 0 ∨ 255 < c → Q 0 h) : Cal G d m_can [.int c] h Q := by
  refine Cal.of [.int c] (by decide +kernel) (Nat.le_of_ble_eq_true rfl) rfl ?_
  refine wp_iload_n 1 dJ1_canEncode_9a6ad_0 rfl rfl ?_
  refine wp_if_lt 15 4 dJ1_canEncode_9a6ad_1 rfl rfl ⟨fun q => ?_, fun q => ?_⟩
  · refine wp_iconst (0 : Int32) 16 dJ1_canEncode_9a6ad_15 kiconst_0 rfl ?_
    exact wp_retz dJ1_canEncode_9a6ad_16 rfl (Or.inl rfl) (k0 (Or.inl q))
  refine wp_iload_n 5 dJ1_canEncode_9a6ad_4 rfl rfl ?_
  refine wp_sipush (255 : Int32) 8 dJ1_canEncode_9a6ad_5 (by decide) rfl ?_
  refine wp_icmp_gt 15 11 dJ1_canEncode_9a6ad_8 rfl rfl ⟨fun q2 => ?_, fun q2 => ?_⟩
  · refine wp_iconst (0 : Int32) 16 dJ1_canEncode_9a6ad_15 kiconst_0 rfl ?_
    exact wp_retz dJ1_canEncode_9a6ad_16 rfl (Or.inl rfl) (k0 (Or.inr q2))
  refine wp_iconst (1 : Int32) 12 dJ1_canEncode_9a6ad_11 kiconst_1 rfl ?_
  refine wp_goto 16 dJ1_canEncode_9a6ad_12 rfl ?_
  exact wp_retz dJ1_canEncode_9a6ad_16 rfl (Or.inr rfl) (k1 q q2)
theorem sg_ich {i : Nat} {c cb : Int32} (x x1 : Int32) (j : Nat) (hx1 : x + 1 = x1) (hj : x.toNatClampNeg = j) (hi : i < 2) (hx : ¬ (x < 0 ∨ 3 ≤ x.toNatClampNeg)) (y : (kB3 i).getD j 0 = cb → Q x h) (n : ¬ (kB3 i).getD j 0 = cb → Wp G d m_ich (kEo G d m_ich Q) 7 [.ref (1010 + i), .int c, .int 0, .int 3, .int cb, .int x1] [] h) : Wp G d m_ich (kEo G d m_ich Q) 7 [.ref (1010 + i), .int c, .int 0, .int 3, .int cb, .int x] [] h := by
  subst hx1
  subst hj
  refine wp_iload 9 dJ1_indexOfChar_4cfef_7 rfl rfl ?_
  refine wp_iload_n 10 dJ1_indexOfChar_4cfef_9 rfl rfl ?_
  refine wp_icmp_ge 31 13 dJ1_indexOfChar_4cfef_10 rfl rfl ⟨fun q => ?_, fun _ => ?_⟩
  · obtain ⟨j, hj, rfl⟩ := vp_in_of hx (by decide)
    have hA : ∀ j, j < 3 → ¬ (3 : Int32) ≤ nI j := by decide +kernel
    exact absurd q (hA j hj)
  refine wp_aload_n 14 dJ1_indexOfChar_4cfef_13 rfl rfl ?_
  refine wp_iload 16 dJ1_indexOfChar_4cfef_14 rfl rfl ?_
  refine wp_bald 17 dJ1_indexOfChar_4cfef_16 rfl hi hx ?_
  refine wp_iload 19 dJ1_indexOfChar_4cfef_17 rfl rfl ?_
  refine wp_icmp_ne 25 22 dJ1_indexOfChar_4cfef_19 rfl rfl ⟨fun q => ?_, fun q => ?_⟩
  · refine wp_iinc (1 : Int32) 28 dJ1_indexOfChar_4cfef_25 rfl rfl kiconst_1 (Nat.le_of_ble_eq_true rfl) rfl ?_
    refine wp_goto 7 dJ1_indexOfChar_4cfef_28 rfl ?_
    exact n q
  · refine wp_iload 24 dJ1_indexOfChar_4cfef_22 rfl rfl ?_
    exact wp_reti dJ1_indexOfChar_4cfef_24 rfl (y q)
theorem sp_ich {i : Nat} {c : Int32} (hi : i < 2) (k : Q (kIxN i c.toInt8.toInt32) h) : Cal G d m_ich [.ref (1010 + i), .int c, .int 0, .int 3] h Q := by
  refine Cal.of [.ref (1010 + i), .int c, .int 0, .int 3, .null, .null] (by decide +kernel) (Nat.le_of_ble_eq_true rfl) rfl ?_
  refine wp_iload_n 1 dJ1_indexOfChar_4cfef_0 rfl rfl ?_
  refine wp_i2b 2 dJ1_indexOfChar_4cfef_1 rfl ?_
  refine wp_istore 4 dJ1_indexOfChar_4cfef_2 rfl (Nat.le_of_ble_eq_true rfl) rfl ?_
  refine wp_iload_n 5 dJ1_indexOfChar_4cfef_4 rfl rfl ?_
  refine wp_istore 7 dJ1_indexOfChar_4cfef_5 rfl (Nat.le_of_ble_eq_true rfl) rfl ?_
  generalize c.toInt8.toInt32 = cb at k
  unfold kIxN at k
  refine sg_ich 0 1 0 (by decide) (by decide) hi (by decide +kernel) (fun q => ?_) (fun n0 => ?_)
  · rw [if_pos q] at k
    exact k
  rw [if_neg n0] at k
  refine sg_ich 1 2 1 (by decide) (by decide) hi (by decide +kernel) (fun q => ?_) (fun n1 => ?_)
  · rw [if_pos q] at k
    exact k
  rw [if_neg n1] at k
  refine sg_ich 2 3 2 (by decide) (by decide) hi (by decide +kernel) (fun q => ?_) (fun n2 => ?_)
  · rw [if_pos q] at k
    exact k
  rw [if_neg n2] at k
  refine wp_iload 9 dJ1_indexOfChar_4cfef_7 rfl rfl ?_
  refine wp_iload_n 10 dJ1_indexOfChar_4cfef_9 rfl rfl ?_
  refine wp_icmp_ge 31 13 dJ1_indexOfChar_4cfef_10 rfl rfl ⟨fun _ => ?_, fun q => absurd (by decide +kernel) q⟩
  refine wp_iconst (-1 : Int32) 32 dJ1_indexOfChar_4cfef_31 kiconst_m1 rfl ?_
  exact wp_reti dJ1_indexOfChar_4cfef_32 rfl k
theorem sp_lix {i : Nat} {c : Int32} (hd : 2 ≤ d) (hi : i < 2) (k : Q (kIxN i c) h) : Cal G d m_lix [.ref (1010 + i), .int c, .int 0, .int 3] h Q := by
  refine Cal.of [.ref (1010 + i), .int c, .int 0, .int 3] (by decide +kernel) (Nat.le_of_ble_eq_true rfl) rfl ?_
  refine wp_iload_n 1 dJ1_indexOf_4cfef_0 rfl rfl ?_
  refine wp_cS (d - 1) 1 [.int c] [] 4 dJ1_indexOf_4cfef_1 rfl (lj_88 rfl) (by omega) rfl rfl (Nat.le_of_ble_eq_true rfl) (sp_can (fun h0 h1 => ?_) (fun ho => ?_))
  · refine wp_if_ne 9 7 dJ1_indexOf_4cfef_4 rfl rfl ⟨fun _ => ?_, fun q => absurd q (by decide)⟩
    refine wp_iload_n 10 dJ1_indexOf_4cfef_9 rfl rfl ?_
    refine wp_iconst (0 : Int32) 11 dJ1_indexOf_4cfef_10 kiconst_0 rfl ?_
    refine wp_max 14 dJ1_indexOf_4cfef_11 rfl (lj_max rfl) (by omega) (Nat.le_of_ble_eq_true rfl) ?_
    have e : (if (0 : Int32) < 0 then (0 : Int32) else 0) = 0 := by decide
    rw [e]
    refine wp_istore_n 15 dJ1_indexOf_4cfef_14 rfl (Nat.le_of_ble_eq_true rfl) rfl ?_
    refine wp_iload_n 16 dJ1_indexOf_4cfef_15 rfl rfl ?_
    refine wp_aload_n 17 dJ1_indexOf_4cfef_16 rfl rfl ?_
    refine wp_blen 18 dJ1_indexOf_4cfef_17 rfl hi ?_
    refine wp_min 21 dJ1_indexOf_4cfef_18 rfl (lj_min rfl) (by omega) (Nat.le_of_ble_eq_true rfl) ?_
    have e2 : (if (3 : Int32) < 3 then (3 : Int32) else 3) = 3 := by decide
    rw [e2]
    refine wp_istore_n 22 dJ1_indexOf_4cfef_21 rfl (Nat.le_of_ble_eq_true rfl) rfl ?_
    refine wp_iload_n 23 dJ1_indexOf_4cfef_22 rfl rfl ?_
    refine wp_iload_n 24 dJ1_indexOf_4cfef_23 rfl rfl ?_
    refine wp_icmp_lt 29 27 dJ1_indexOf_4cfef_24 rfl rfl ⟨fun _ => ?_, fun q => absurd (by decide) q⟩
    refine wp_aload_n 30 dJ1_indexOf_4cfef_29 rfl rfl ?_
    refine wp_iload_n 31 dJ1_indexOf_4cfef_30 rfl rfl ?_
    refine wp_iload_n 32 dJ1_indexOf_4cfef_31 rfl rfl ?_
    refine wp_iload_n 33 dJ1_indexOf_4cfef_32 rfl rfl ?_
    refine wp_cS (d - 1) 4 [.ref (1010 + i), .int c, .int 0, .int 3] [] 36 dJ1_indexOf_4cfef_33 rfl (lj_95 rfl) (by omega) rfl rfl (Nat.le_of_ble_eq_true rfl) (sp_ich hi ?_)
    rw [kIxN_i2b hi h0 h1]
    exact wp_reti dJ1_indexOf_4cfef_36 rfl k
  · refine wp_if_ne 9 7 dJ1_indexOf_4cfef_4 rfl rfl ⟨fun q => absurd rfl q, fun _ => ?_⟩
    rw [kIxN_out hi ho] at k
    refine wp_iconst (-1 : Int32) 8 dJ1_indexOf_4cfef_7 kiconst_m1 rfl ?_
    exact wp_reti dJ1_indexOf_4cfef_8 rfl k
theorem sp_ix2 {i : Nat} {c : Int32} (hd : 3 ≤ d) (hi : i < 2) (k : Q (kIxN i c) h) : Cal G d m_ix2 [.ref (1000 + i), .int c, .int 0] h Q := by
  refine Cal.of [.ref (1000 + i), .int c, .int 0] (by decide +kernel) (Nat.le_of_ble_eq_true rfl) rfl ?_
  refine wp_aload_n 1 dJ0_indexOf_7cf53_0 rfl rfl ?_
  refine wp_jV (d - 1) 0 [] [] 4 dJ0_indexOf_7cf53_1 rfl (lj_492 rfl) (by omega) hi rfl rfl rfl (Nat.le_of_ble_eq_true rfl) (sp_lat hi ?_)
  refine wp_if_eq 23 7 dJ0_indexOf_7cf53_4 rfl rfl ⟨fun q => absurd q (by decide), fun _ => ?_⟩
  refine wp_aload_n 8 dJ0_indexOf_7cf53_7 rfl rfl ?_
  refine wp_val 11 dJ0_indexOf_7cf53_8 rfl rfl hi ?_
  refine wp_iload_n 12 dJ0_indexOf_7cf53_11 rfl rfl ?_
  refine wp_iload_n 13 dJ0_indexOf_7cf53_12 rfl rfl ?_
  refine wp_aload_n 14 dJ0_indexOf_7cf53_13 rfl rfl ?_
  refine wp_jV (d - 1) 0 [] [.int 0, .int c, .ref (1010 + i)] 17 dJ0_indexOf_7cf53_14 rfl (lj_505 rfl) (by omega) hi rfl rfl rfl (Nat.le_of_ble_eq_true rfl) (sp_len (by omega) hi ?_)
  refine wp_cS (d - 1) 4 [.ref (1010 + i), .int c, .int 0, .int 3] [] 20 dJ0_indexOf_7cf53_17 rfl (lj_637 rfl) (by omega) rfl rfl (Nat.le_of_ble_eq_true rfl) (sp_lix (by omega) hi ?_)
  refine wp_goto 36 dJ0_indexOf_7cf53_20 rfl ?_
  exact wp_reti dJ0_indexOf_7cf53_36 rfl k
theorem sp_ix1 {i : Nat} {c : Int32} (hd : 4 ≤ d) (hi : i < 2) (k : Q (kIxN i c) h) : Cal G d m_ix1 [.ref (1000 + i), .int c] h Q := by
  refine Cal.of [.ref (1000 + i), .int c] (by decide +kernel) (Nat.le_of_ble_eq_true rfl) rfl ?_
  refine wp_aload_n 1 dJ0_indexOf_0f7a4_0 rfl rfl ?_
  refine wp_iload_n 2 dJ0_indexOf_0f7a4_1 rfl rfl ?_
  refine wp_iconst (0 : Int32) 3 dJ0_indexOf_0f7a4_2 kiconst_0 rfl ?_
  refine wp_jV (d - 1) 2 [.int c, .int 0] [] 6 dJ0_indexOf_0f7a4_3 rfl (lj_633 rfl) (by omega) hi rfl rfl rfl (Nat.le_of_ble_eq_true rfl) (sp_ix2 (by omega) hi ?_)
  exact wp_reti dJ0_indexOf_0f7a4_6 rfl k
end Jdk
theorem wp_ix {G : kG} {d : Nat} {mt : kMt} {E : kEv} {pc : Nat} {ls st : List Value} {h : kM} {idx : Nat} {n c : Int32} (pc' : Nat) (hd : decode mt.2.1 pc = .ok (.invokevirtual idx, 3)) (hp : pc + 3 = pc') (hw : kLV mt m_ix1 idx 1) (hd5 : 5 ≤ d) (hst : (st.map fun v => v.category).sum ≤ 8) (hn : n = 0 ∨ n = 1) (kk : Wp G d mt E pc' ls (.int (kIx n c) :: st) h) : Wp G d mt E pc ls (.int c :: .ref (1000 + n.toNatClampNeg) :: st) h := by
  have hi : n.toNatClampNeg < 2 := by rcases hn with rfl | rfl <;> decide
  exact wp_jV (d - 1) 1 [.int c] st pc' hd hp hw (by omega) hi rfl rfl rfl hst (sp_ix1 (by omega) hi kk)


