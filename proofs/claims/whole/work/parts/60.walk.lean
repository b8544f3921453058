/-! the walk of the law's first instructions -/
def bEl (s0 : State) : bE := (room_1, fun s q => s.heap.size ≤ q, fun s => s = s0, fun below args s => lw_Z below args s)
theorem bw_L7 : Cond.classLink m_L.1.cls 7 RX7 ∈ TW ∧ Cond.instantiable RX7 9 ∈ TW ∧ Cond.initialized RX7 ∈ TW := ⟨tw_mem (List.mem_of_getElem? (i := 92) (by decide +kernel)) rfl, tw_mem (List.mem_of_getElem? (i := 93) (by decide +kernel)) rfl, tw_mem (List.mem_of_getElem? (i := 76) (by decide +kernel)) rfl⟩
theorem bw_L8 : Cond.classLink m_L.1.cls 10 RX8 ∈ TW ∧ Cond.instantiable RX8 24 ∈ TW ∧ Cond.initialized RX8 ∈ TW := ⟨tw_mem (List.mem_of_getElem? (i := 943) (by decide +kernel)) rfl, tw_mem (List.mem_of_getElem? (i := 944) (by decide +kernel)) rfl, tw_mem (List.mem_of_getElem? (i := 84) (by decide +kernel)) rfl⟩
theorem bw_M7 : kLJ m_L.1.cls 9 m_X7_init := ⟨tw_mem (List.mem_of_getElem? (i := 94) (by decide +kernel)) rfl, tw_mem (List.mem_of_getElem? (i := 95) (by decide +kernel)) rfl, tw_mem (List.mem_of_getElem? (i := 76) (by decide +kernel)) rfl, tw_mem (List.mem_of_getElem? (i := 96) (by decide +kernel)) rfl, rfl, ⟨by decide +kernel, by decide +kernel, by decide +kernel⟩⟩
theorem bw_M8 : kLJ m_L.1.cls 12 m_X8_init := ⟨tw_mem (List.mem_of_getElem? (i := 945) (by decide +kernel)) rfl, tw_mem (List.mem_of_getElem? (i := 946) (by decide +kernel)) rfl, tw_mem (List.mem_of_getElem? (i := 84) (by decide +kernel)) rfl, tw_mem (List.mem_of_getElem? (i := 947) (by decide +kernel)) rfl, rfl, ⟨by decide +kernel, by decide +kernel, by decide +kernel⟩⟩
theorem b_law {J : bJ} {s0 : State} {b : Nat} (hend : ∀ (u : bS7) (v : bS8), Bp J m_L (bEl s0) 18 [(3, .int (nI 0)), (2, .ref (bt8 v)), (1, .ref (bt7 u)), (0, .ref b)] [] (bo7 J u ++ bo8 J v) 600000 7302250) : Bp J m_L (bEl s0) 0 [(0, .ref b)] [] [] 0 0 := by
  refine b_new [.null, .null, .int 0, .null, .null, .null, .null, .null, .null] 3 dL_law_0 rfl (ci := 7) (C := RX7) (T := TX7) (N := 9) (ts := tyX7) rfl tw_in7 tyX7_ok bw_L7 bdf_7 (Nat.le_of_ble_eq_true rfl) (Nat.le_of_ble_eq_true rfl) (fun z1 => ?_)
  refine b_dup 4 dL_law_3 rfl ?_
  refine b_makeL 7 dL_law_4 rfl (mk_7 J) rfl bw_M7 ⟨Nat.le_of_ble_eq_true rfl, Nat.le_of_ble_eq_true rfl⟩ ⟨Nat.le_of_ble_eq_true rfl, Nat.le_of_ble_eq_true rfl⟩ (Nat.le_of_ble_eq_true rfl) (fun u hu => ?_)
  subst hu
  refine b_astore [(1, .ref (bt7 u)), (0, .ref b)] 8 dL_law_7 rfl (Nat.le_of_ble_eq_true rfl) rfl ?_
  refine b_new [.null, .null, .null, .null, .int 0, .null, .int 0, .int 0, .int 0, .int 0, .null, .null, .null, .int 0, .int 0, .int 0, .null, .int 0, .int 0, .int 0, .null, .null, .null, .null] 11 dL_law_8 rfl (ci := 8) (C := RX8) (T := TX8) (N := 24) (ts := tyX8) rfl tw_in8 tyX8_ok bw_L8 bdf_8 (Nat.le_of_ble_eq_true rfl) (Nat.le_of_ble_eq_true rfl) (fun z2 => ?_)
  refine b_dup 12 dL_law_11 rfl ?_
  refine b_makeL 15 dL_law_12 rfl (mk_8 J) rfl bw_M8 ⟨Nat.le_of_ble_eq_true rfl, Nat.le_of_ble_eq_true rfl⟩ ⟨Nat.le_of_ble_eq_true rfl, Nat.le_of_ble_eq_true rfl⟩ (Nat.le_of_ble_eq_true rfl) (fun v hv => ?_)
  subst hv
  refine b_astore [(2, .ref (bt8 v)), (1, .ref (bt7 u)), (0, .ref b)] 16 dL_law_15 rfl (Nat.le_of_ble_eq_true rfl) rfl ?_
  refine b_iconst (nI 0) 17 dL_law_16 (by decide) rfl ?_
  refine b_istore [(3, .int (nI 0)), (2, .ref (bt8 v)), (1, .ref (bt7 u)), (0, .ref b)] 18 dL_law_17 rfl (Nat.le_of_ble_eq_true rfl) rfl ?_
  refine b_show (bo7 J u ++ bo8 J v) rfl ?_
  intro p e s m args below meth c H locs lsC X hP hD hS hl
  exact W.widen (Nat.le_of_ble_eq_true rfl) (Nat.le_of_ble_eq_true rfl) (hend u v p e s m args below meth c H locs lsC X hP hD hS hl)

