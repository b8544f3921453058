/-! what the tables and the Statement give of the start, by program (g61.py) -/
theorem b_tbl {args : Array Value} {s : State} (hts : ∀ w ∈ lw_tbl, w.before args s = true) : ∃ (D : va_G) (cI c4 c2 : ClassId), va_K D vwCl [(cI, .int), (c4, .object RX4), (c2, .array .int)] s ∧ va_AO RX4 s ∧ mqAO s := by
  obtain ⟨c0, i0, k0⟩ := u_known (C := RX0) (T := TX0) (N := 11) (n := 11) hts inX0 (hts (.instantiable RX0 11) (List.mem_of_getElem? (i := 229) (by decide +kernel)))
  obtain ⟨c1, i1, k1⟩ := u_known (C := RX1) (T := TX1) (N := 6) (n := 6) hts inX1 (hts (.instantiable RX1 6) (List.mem_of_getElem? (i := 199) (by decide +kernel)))
  obtain ⟨c2, i2, k2⟩ := u_known (C := RX2) (T := TX2) (N := 17) (n := 17) hts inX2 (hts (.instantiable RX2 17) (List.mem_of_getElem? (i := 101) (by decide +kernel)))
  obtain ⟨c3, i3, k3⟩ := u_known (C := RX3) (T := TX3) (N := 10) (n := 10) hts inX3 (hts (.instantiable RX3 10) (List.mem_of_getElem? (i := 276) (by decide +kernel)))
  obtain ⟨c4, i4, k4⟩ := u_known (C := RX4) (T := TX4) (N := 3) (n := 3) hts inX4 (hts (.instantiable RX4 3) (List.mem_of_getElem? (i := 345) (by decide +kernel)))
  obtain ⟨c5, i5, k5⟩ := u_known (C := RX5) (T := TX5) (N := 6) (n := 6) hts inX5 (hts (.instantiable RX5 6) (List.mem_of_getElem? (i := 316) (by decide +kernel)))
  obtain ⟨c6, i6, k6⟩ := u_known (C := RX6) (T := TX6) (N := 3) (n := 3) hts inX6 (hts (.instantiable RX6 3) (List.mem_of_getElem? (i := 107) (by decide +kernel)))
  obtain ⟨c7, i7, k7⟩ := u_known (C := RX7) (T := TX7) (N := 9) (n := 9) hts inX7 (hts (.instantiable RX7 9) (List.mem_of_getElem? (i := 93) (by decide +kernel)))
  obtain ⟨c8, i8, k8⟩ := u_known (C := RX8) (T := TX8) (N := 24) (n := 24) hts inX8 (hts (.instantiable RX8 24) (List.mem_of_getElem? (i := 944) (by decide +kernel)))
  have hI := hts (.arrayClass .int) (List.mem_of_getElem? (i := 122) (by decide +kernel))
  have h4 := hts (.arrayOver (.object RX4)) (List.mem_of_getElem? (i := 344) (by decide +kernel))
  have h2 := hts (.arrayOver (.array .int)) (List.mem_of_getElem? (i := 235) (by decide +kernel))
  obtain ⟨cI, kI, pI, nI1, nI2, nI3⟩ := Cond.arrayClass_spec hI
  obtain ⟨p4, a4, k4', n41, -, n42, n43, n44⟩ := Cond.arrayOver_spec h4
  obtain ⟨p2, a2, k2', n21, n22, n23, n24⟩ := mqAO.of h2
  refine ⟨(fun k => ([c0, c1, c2, c3, c4, c5, c6, c7, c8] : List ClassId).getD k c0, fun k => ([i0, i1, i2, i3, i4, i5, i6, i7, i8] : List (Nat → Nat)).getD k i0), cI, a4, a2, ⟨fun k q hq => ?_, fun k q hq => ?_⟩, va_AO.of h4, mqAO.of h2⟩
  · match k, hq with
    | 0, hq => cases hq; exact k0
    | 1, hq => cases hq; exact k1
    | 2, hq => cases hq; exact k2
    | 3, hq => cases hq; exact k3
    | 4, hq => cases hq; exact k4
    | 5, hq => cases hq; exact k5
    | 6, hq => cases hq; exact k6
    | 7, hq => cases hq; exact k7
    | 8, hq => cases hq; exact k8
    | k + 9, hq => simp [vwCl] at hq
  · match k, hq with
    | 0, hq =>
      cases hq
      exact ⟨fun n z => ⟨fun x h => (by cases h), kI, nI2, pI, nI3⟩, nI1⟩
    | 1, hq =>
      cases hq
      exact ⟨fun n z => ⟨fun x h => (by cases h), k4', n42, p4, n43⟩, k4', p4, n42, n43, n41, n44⟩
    | 2, hq =>
      cases hq
      exact ⟨fun n z => ⟨fun x h => (by cases h), k2', n22, p2, n23⟩, n24⟩
    | k + 3, hq => simp at hq
def bTm (i : Nat) : Term := .string RX1 (if i = 0 then 22 else 51)
abbrev bAb : Term := .static "KnottedWinds" "ABOVE" "[I"
abbrev bBo : Term := .static "KnottedWinds$Speaker" "BODIES" "[I"
noncomputable def bFl : List Cond := flatC (Jvm.Cond.and given_1 narrow_1)
theorem bfl_1 : Cond.arrayOf bAb .int ∈ bFl ∧ Cond.eq (.length bAb) (.int (Int32.ofNat 7)) ∈ bFl ∧ (∀ j, j < 7 → Cond.eq (.elem bAb (.int (Int32.ofNat j))) (.int (kAb.getD j 0)) ∈ bFl) := by decide +kernel
theorem bfl_2 : Cond.arrayOf bBo .int ∈ bFl ∧ Cond.eq (.length bBo) (.int (Int32.ofNat 28)) ∈ bFl ∧ (∀ j, j < 28 → Cond.eq (.elem bBo (.int (Int32.ofNat j))) (.int (kBo.getD j 0)) ∈ bFl) := by decide +kernel
theorem bfl_3 : Cond.eq (.static "java/lang/String" "COMPACT_STRINGS" "Z") (.int 1) ∈ bFl := by decide +kernel
theorem bfl_4 : (∀ i, i < 2 → Cond.exactly (bTm i) "java/lang/String" ∈ bFl) ∧ (∀ i, i < 2 → Cond.eq (.field (bTm i) "java/lang/String" "coder" "B") (.int 0) ∈ bFl) ∧ (∀ i, i < 2 → Cond.arrayOf (.field (bTm i) "java/lang/String" "value" "[B") .byte ∈ bFl) ∧ (∀ i, i < 2 → Cond.eq (.length (.field (bTm i) "java/lang/String" "value" "[B")) (.int (Int32.ofNat (([3, 3] : List Nat).getD i 0))) ∈ bFl) := by decide +kernel
theorem bfl_5 : ∀ i, i < 2 → ∀ j, j < 3 → Cond.eq (.elem (.field (bTm i) "java/lang/String" "value" "[B") (.int (Int32.ofNat j))) (.int ((([[104, 119, 109], [107, 109, 110]] : List (List Int32)).getD i []).getD j 0)) ∈ bFl := by decide +kernel
theorem bfl_6 : Cond.not (Cond.eq (bTm 0) (bTm 1)) ∈ bFl := by decide +kernel
theorem b_len2 : ∀ i, i < 2 → ([3, 3] : List Nat).getD i 0 = 3 := by decide
theorem b_stat {args : Array Value} {s : State} (hts : ∀ w ∈ lw_tbl, w.before args s = true) (hgv : (Jvm.Cond.and given_1 narrow_1).before args s = true) :
    ∃ (adK adV : Nat → Nat) (tA tB : Nat), va_Z "KnottedWinds" "ABOVE" "[I" (.ref tA) (fun q => s.heap.size ≤ q) s s.heap ∧ va_T .int tA 7 (fun j => .int (kAb.getD j 0)) (fun q => s.heap.size ≤ q) s s.heap ∧ va_Z "KnottedWinds$Speaker" "BODIES" "[I" (.ref tB) (fun q => s.heap.size ≤ q) s s.heap ∧ va_T .int tB 28 (fun j => .int (kBo.getD j 0)) (fun q => s.heap.size ≤ q) s s.heap ∧
      va_Z "java/lang/String" "COMPACT_STRINGS" "Z" (.int 1) (fun q => s.heap.size ≤ q) s s.heap ∧ vk_S 2 [3, 3] [[104, 119, 109], [107, 109, 110]] adK adV (fun q => s.heap.size ≤ q) s s.heap ∧ vk_R RX1 22 "hwm" (adK 0) s ∧ vk_R RX1 51 "kmn" (adK 1) s := by
  have hs : ∀ w ∈ bFl, w.before args s = true := flat_of_before _ hgv
  have hA : ∀ a : Nat, a < s.heap.size → ¬ (fun q : Nat => s.heap.size ≤ q) a := fun a h => Nat.not_le.mpr h
  obtain ⟨tA, eA, hTA⟩ := va_Tof (tm := bAb) (ty := .int) (N := 7) (f := fun j => .int (kAb.getD j 0)) (by decide) (hs _ bfl_1.1) (va_eqt (hs _ bfl_1.2.1)) (fun j hj => va_eqt (hs _ (bfl_1.2.2 j hj))) hA
  obtain ⟨tB, eB, hTB⟩ := va_Tof (tm := bBo) (ty := .int) (N := 28) (f := fun j => .int (kBo.getD j 0)) (by decide) (hs _ bfl_2.1) (va_eqt (hs _ bfl_2.2.1)) (fun j hj => va_eqt (hs _ (bfl_2.2.2 j hj))) hA
  obtain ⟨adK, adV, hS, hE⟩ := vk_Sof (N := 2) (tm := bTm) (len := [3, 3]) (byt := [[104, 119, 109], [107, 109, 110]]) (A := fun q : Nat => s.heap.size ≤ q) (fun i hi => by rw [b_len2 i hi]; decide) (fun i hi => hs _ (bfl_4.1 i hi)) (fun i hi => hs _ (bfl_4.2.1 i hi)) (fun i hi => hs _ (bfl_4.2.2.1 i hi)) (fun i hi => hs _ (bfl_4.2.2.2 i hi)) (fun i hi j hj => hs _ (bfl_5 i hi j (by rw [b_len2 i hi] at hj; exact hj))) (fun i j hi hj hij => by
    have h := hs _ bfl_6
    rcases (show i = 0 ∨ i = 1 by omega) with rfl | rfl <;> rcases (show j = 0 ∨ j = 1 by omega) with rfl | rfl
    · exact absurd rfl hij
    · exact Or.inl h
    · exact Or.inr h
    · exact absurd rfl hij) hA
  refine ⟨adK, adV, tA, tB, va_Zof (hts (.laysStatic "KnottedWinds" "ABOVE" "[I") (List.mem_of_getElem? (i := 516) (by decide +kernel))) (hts (.initialized "KnottedWinds") (List.mem_of_getElem? (i := 76) (by decide +kernel))) eA hA, hTA, va_Zof (hts (.laysStatic "KnottedWinds$Speaker" "BODIES" "[I") (List.mem_of_getElem? (i := 855) (by decide +kernel))) (hts (.initialized "KnottedWinds$Speaker") (List.mem_of_getElem? (i := 82) (by decide +kernel))) eB hA, hTB, va_Zof (hts (.laysStatic "java/lang/String" "COMPACT_STRINGS" "Z") (List.mem_of_getElem? (i := 606) (by decide +kernel))) (hts (.initialized "java/lang/String") (List.mem_of_getElem? (i := 87) (by decide +kernel))) (va_eqt (hs _ bfl_3)) hA, hS, vk_R.of (hts (.stringRef RX1 22 "hwm") (List.mem_of_getElem? (i := 206) (by decide +kernel))) (hE 0 (by decide)), vk_R.of (hts (.stringRef RX1 51 "kmn") (List.mem_of_getElem? (i := 557) (by decide +kernel))) (hE 1 (by decide))⟩
theorem b_nest {args : Array Value} {s : State} (hts : ∀ w ∈ lw_tbl, w.before args s = true) : ∀ w ∈ kNest, va_Nw w s := by
  intro w hw
  have h1 := (List.mem_filter.mp hw).1
  have h2 := (List.mem_filter.mp hw).2
  have h3 := hts w h1
  cases w <;> first | exact va_Nw.of rfl h3 | (simp at h2)

