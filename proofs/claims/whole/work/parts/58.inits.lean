/-! the constructors, by program (g58.py) -/
abbrev bA (J : bJ) (N : Nat) : va_E := .inl (J.2.2.1, N, .inl (fun _ => 0))
abbrev bSh (J : bJ) (f : Nat → Option Nat) : va_E := .inl (J.2.2.2.1, 4, .inr (.inr (.inr (.inr f))))
theorem bw_arr : Cond.arrayClass .int ∈ TW := tw_mem (List.mem_of_getElem? (i := 122) (by decide +kernel)) rfl
theorem bw_oi : Cond.instanceMethod objectInit ∈ TW := tw_mem (List.mem_of_getElem? (i := 98) (by decide +kernel)) rfl
theorem bw_oc : Cond.code objectInit ⟨#[0xb1]⟩ 1 none ∈ TW := tw_mem (List.mem_of_getElem? (i := 99) (by decide +kernel)) rfl
abbrev m_X0_init : kMt := (yX0_init, cX0_init, 1, none)
theorem bdf_0 : ∀ j, j < 11 → defaultValue (tyX0 j) = vp_V [.null, .null, .null, .null, .null, .int 0, .int 0, .int 0, .int 0, .int 0, .int 0] j
  | 0, _ => rfl
  | 1, _ => rfl
  | 2, _ => rfl
  | 3, _ => rfl
  | 4, _ => rfl
  | 5, _ => rfl
  | 6, _ => rfl
  | 7, _ => rfl
  | 8, _ => rfl
  | 9, _ => rfl
  | 10, _ => rfl
  | j + 11, h => absurd h (by omega)
abbrev m_X1_init : kMt := (yX1_init, cX1_init, 1, none)
theorem bdf_1 : ∀ j, j < 6 → defaultValue (tyX1 j) = vp_V [.null, .null, .int 0, .int 0, .int 0, .null] j
  | 0, _ => rfl
  | 1, _ => rfl
  | 2, _ => rfl
  | 3, _ => rfl
  | 4, _ => rfl
  | 5, _ => rfl
  | j + 6, h => absurd h (by omega)
abbrev m_X2_init : kMt := (yX2_init, cX2_init, 1, none)
theorem bdf_2 : ∀ j, j < 17 → defaultValue (tyX2 j) = vp_V [.null, .null, .null, .null, .null, .null, .null, .null, .null, .null, .null, .null, .int 0, .int 0, .int 0, .int 0, .int 0] j
  | 0, _ => rfl
  | 1, _ => rfl
  | 2, _ => rfl
  | 3, _ => rfl
  | 4, _ => rfl
  | 5, _ => rfl
  | 6, _ => rfl
  | 7, _ => rfl
  | 8, _ => rfl
  | 9, _ => rfl
  | 10, _ => rfl
  | 11, _ => rfl
  | 12, _ => rfl
  | 13, _ => rfl
  | 14, _ => rfl
  | 15, _ => rfl
  | 16, _ => rfl
  | j + 17, h => absurd h (by omega)
abbrev m_X3_init : kMt := (yX3_init, cX3_init, 1, none)
theorem bdf_3 : ∀ j, j < 10 → defaultValue (tyX3 j) = vp_V [.null, .null, .null, .null, .int 0, .int 0, .int 0, .int 0, .int 0, .int 0] j
  | 0, _ => rfl
  | 1, _ => rfl
  | 2, _ => rfl
  | 3, _ => rfl
  | 4, _ => rfl
  | 5, _ => rfl
  | 6, _ => rfl
  | 7, _ => rfl
  | 8, _ => rfl
  | 9, _ => rfl
  | j + 10, h => absurd h (by omega)
abbrev m_X4_init : kMt := (yX4_init, cX4_init, 1, none)
theorem bdf_4 : ∀ j, j < 3 → defaultValue (tyX4 j) = vp_V [.null, .int 0, .int 0] j
  | 0, _ => rfl
  | 1, _ => rfl
  | 2, _ => rfl
  | j + 3, h => absurd h (by omega)
abbrev m_X5_init : kMt := (yX5_init, cX5_init, 1, none)
theorem bdf_5 : ∀ j, j < 6 → defaultValue (tyX5 j) = vp_V [.null, .int 0, .int 0, .int 0, .int 0, .int 0] j
  | 0, _ => rfl
  | 1, _ => rfl
  | 2, _ => rfl
  | 3, _ => rfl
  | 4, _ => rfl
  | 5, _ => rfl
  | j + 6, h => absurd h (by omega)
abbrev m_X6_init : kMt := (yX6_init, cX6_init, 1, none)
theorem bdf_6 : ∀ j, j < 3 → defaultValue (tyX6 j) = vp_V [.null, .null, .int 0] j
  | 0, _ => rfl
  | 1, _ => rfl
  | 2, _ => rfl
  | j + 3, h => absurd h (by omega)
abbrev m_X7_init : kMt := (yX7_init, cX7_init, 2, none)
theorem bdf_7 : ∀ j, j < 9 → defaultValue (tyX7 j) = vp_V [.null, .null, .int 0, .null, .null, .null, .null, .null, .null] j
  | 0, _ => rfl
  | 1, _ => rfl
  | 2, _ => rfl
  | 3, _ => rfl
  | 4, _ => rfl
  | 5, _ => rfl
  | 6, _ => rfl
  | 7, _ => rfl
  | 8, _ => rfl
  | j + 9, h => absurd h (by omega)
abbrev m_X8_init : kMt := (yX8_init, cX8_init, 1, none)
theorem bdf_8 : ∀ j, j < 24 → defaultValue (tyX8 j) = vp_V [.null, .null, .null, .null, .int 0, .null, .int 0, .int 0, .int 0, .int 0, .null, .null, .null, .int 0, .int 0, .int 0, .null, .int 0, .int 0, .int 0, .null, .null, .null, .null] j
  | 0, _ => rfl
  | 1, _ => rfl
  | 2, _ => rfl
  | 3, _ => rfl
  | 4, _ => rfl
  | 5, _ => rfl
  | 6, _ => rfl
  | 7, _ => rfl
  | 8, _ => rfl
  | 9, _ => rfl
  | 10, _ => rfl
  | 11, _ => rfl
  | 12, _ => rfl
  | 13, _ => rfl
  | 14, _ => rfl
  | 15, _ => rfl
  | 16, _ => rfl
  | 17, _ => rfl
  | 18, _ => rfl
  | 19, _ => rfl
  | 20, _ => rfl
  | 21, _ => rfl
  | 22, _ => rfl
  | 23, _ => rfl
  | j + 24, h => absurd h (by omega)
def bCo (J : bJ) (b : Nat) : va_W := (b, .inl (J.2.2.2.2.1, 25, .inr (.inr (.inr (.inr (fun i => some (b + 1 + i))))))) :: (List.range 25).map (fun i => (b + 1 + i, bA J 5))
theorem bw_obj_6 : Cond.methodLink RX6 3 objectInit ∈ TW ∧ Cond.instanceMethod objectInit ∈ TW ∧ Cond.code objectInit ⟨#[0xb1]⟩ 1 none ∈ TW := ⟨tw_mem (List.mem_of_getElem? (i := 111) (by decide +kernel)) rfl, bw_oi, bw_oc⟩
theorem kfi_6_0 : kFf 6 0 RX6 := fun q h => by cases h; exact ⟨rfl, rfl⟩
theorem kfi_6_1 : kFf 6 1 RX6 := fun q h => by cases h; exact ⟨rfl, rfl⟩
abbrev bS6 : Type := (Nat → Nat)
abbrev bt6 (u : bS6) : Nat := (u 0)
def bo6 (J : bJ) (u : bS6) : va_W := [((u 0), .inr (6, [.ref (u 1), .ref (u 2), .int 0])), ((u 1), bA J 60), ((u 2), bA J 60)]
set_option maxRecDepth 20000 in
theorem mk_6 (J : bJ) : Mk J 1 2 120 m_X6_init (.inr (6, [.null, .null, .int 0])) bt6 (bo6 J) := by
  refine Mk.of (by decide +kernel) (Nat.le_of_ble_eq_true rfl) rfl (fun a => ?_)
  refine b_aload 0 1 dX6_init_0 rfl rfl ?_
  refine b_obj 4 dX6_init_1 rfl bw_obj_6 ⟨(Nat.le_of_ble_eq_true rfl), (Nat.le_of_ble_eq_true rfl)⟩ ?_
  refine b_aload 0 5 dX6_init_4 rfl rfl ?_
  refine b_bipush (60 : Int32) 7 dX6_init_5 kbipush_60 rfl ?_
  refine b_newI 60 9 dX6_init_7 rfl bw_arr (by decide) (by decide) (Nat.le_of_ble_eq_true rfl) (Nat.le_of_ble_eq_true rfl) (Nat.le_of_ble_eq_true rfl) (fun q1 => ?_)
  refine b_putF (ty := (.array .int)) ([(a, .inr (6, [.ref q1, .null, .int 0])), (q1, bA J 60)]) 12 dX6_init_9 rfl fl_X6_9 kfi_6_0 rfl rfl rfl rfl rfl (Nat.le_of_ble_eq_true rfl) ?_
  refine b_aload 0 13 dX6_init_12 rfl rfl ?_
  refine b_bipush (60 : Int32) 15 dX6_init_13 kbipush_60 rfl ?_
  refine b_newI 60 17 dX6_init_15 rfl bw_arr (by decide) (by decide) (Nat.le_of_ble_eq_true rfl) (Nat.le_of_ble_eq_true rfl) (Nat.le_of_ble_eq_true rfl) (fun q2 => ?_)
  refine b_putF (ty := (.array .int)) ([(a, .inr (6, [.ref q1, .ref q2, .int 0])), (q1, bA J 60), (q2, bA J 60)]) 20 dX6_init_17 rfl fl_X6_15 kfi_6_1 rfl rfl rfl rfl rfl (Nat.le_of_ble_eq_true rfl) ?_
  exact b_ret (fun i => [a, q1, q2].getD i 0) dX6_init_20 rfl rfl rfl (Nat.le_of_ble_eq_true rfl) (Nat.le_of_ble_eq_true rfl)
theorem bw_obj_2 : Cond.methodLink RX2 3 objectInit ∈ TW ∧ Cond.instanceMethod objectInit ∈ TW ∧ Cond.code objectInit ⟨#[0xb1]⟩ 1 none ∈ TW := ⟨tw_mem (List.mem_of_getElem? (i := 105) (by decide +kernel)) rfl, bw_oi, bw_oc⟩
theorem kfi_2_0 : kFf 2 0 RX2 := fun q h => by cases h; exact ⟨rfl, rfl⟩
theorem kfi_2_1 : kFf 2 1 RX2 := fun q h => by cases h; exact ⟨rfl, rfl⟩
theorem kfi_2_2 : kFf 2 2 RX2 := fun q h => by cases h; exact ⟨rfl, rfl⟩
theorem kfi_2_3 : kFf 2 3 RX2 := fun q h => by cases h; exact ⟨rfl, rfl⟩
theorem kfi_2_4 : kFf 2 4 RX2 := fun q h => by cases h; exact ⟨rfl, rfl⟩
theorem kfi_2_5 : kFf 2 5 RX2 := fun q h => by cases h; exact ⟨rfl, rfl⟩
theorem kfi_2_6 : kFf 2 6 RX2 := fun q h => by cases h; exact ⟨rfl, rfl⟩
theorem kfi_2_7 : kFf 2 7 RX2 := fun q h => by cases h; exact ⟨rfl, rfl⟩
theorem kfi_2_8 : kFf 2 8 RX2 := fun q h => by cases h; exact ⟨rfl, rfl⟩
theorem kfi_2_9 : kFf 2 9 RX2 := fun q h => by cases h; exact ⟨rfl, rfl⟩
theorem bw_new_X2_42 : Cond.classLink RX2 42 RX6 ∈ TW ∧ Cond.instantiable RX6 3 ∈ TW ∧ Cond.initialized RX6 ∈ TW := ⟨tw_mem (List.mem_of_getElem? (i := 106) (by decide +kernel)) rfl, tw_mem (List.mem_of_getElem? (i := 107) (by decide +kernel)) rfl, tw_mem (List.mem_of_getElem? (i := 78) (by decide +kernel)) rfl⟩
theorem bw_mk_X2_44 : kLI RX2 44 m_X6_init "KnottedWinds" := ⟨List.mem_filter.mpr ⟨(List.mem_of_getElem? (i := 108) (by decide +kernel)), rfl⟩, tw_mem (List.mem_of_getElem? (i := 109) (by decide +kernel)) rfl, tw_mem (List.mem_of_getElem? (i := 78) (by decide +kernel)) rfl, tw_mem (List.mem_of_getElem? (i := 110) (by decide +kernel)) rfl, rfl, ⟨by decide +kernel, by decide +kernel, by decide +kernel⟩⟩
theorem kfi_2_10 : kFf 2 10 RX2 := fun q h => by cases h; exact ⟨rfl, rfl⟩
theorem kfi_2_11 : kFf 2 11 RX2 := fun q h => by cases h; exact ⟨rfl, rfl⟩
abbrev bS2 : Type := (Nat → Nat) × bS6 × bS6
abbrev bt2 (u : bS2) : Nat := (u.1 0)
def bo2 (J : bJ) (u : bS2) : va_W := (([((u.1 0), .inr (2, [.ref (u.1 1), .ref (u.1 2), .ref (u.1 3), .ref (u.1 4), .ref (u.1 5), .ref (u.1 6), .ref (u.1 7), .ref (u.1 8), .ref (u.1 9), .ref (u.1 10), .ref (bt6 u.2.1), .ref (bt6 u.2.2), .int 0, .int 0, .int 0, .int 0, .int 1])), ((u.1 1), bA J 64), ((u.1 2), bA J 2), ((u.1 3), bA J 5), ((u.1 4), bA J 5), ((u.1 5), bA J 15), ((u.1 6), bA J 15), ((u.1 7), bA J 15), ((u.1 8), bA J 15), ((u.1 9), bA J 60), ((u.1 10), bA J 24)] ++ bo6 J u.2.1) ++ bo6 J u.2.2)
set_option maxRecDepth 20000 in
theorem mk_2 (J : bJ) : Mk J 2 16 466 m_X2_init (.inr (2, [.null, .null, .null, .null, .null, .null, .null, .null, .null, .null, .null, .null, .int 0, .int 0, .int 0, .int 0, .int 0])) bt2 (bo2 J) := by
  refine Mk.of (by decide +kernel) (Nat.le_of_ble_eq_true rfl) rfl (fun a => ?_)
  refine b_aload 0 1 dX2_init_0 rfl rfl ?_
  refine b_obj 4 dX2_init_1 rfl bw_obj_2 ⟨(Nat.le_of_ble_eq_true rfl), (Nat.le_of_ble_eq_true rfl)⟩ ?_
  refine b_aload 0 5 dX2_init_4 rfl rfl ?_
  refine b_bipush (64 : Int32) 7 dX2_init_5 kbipush_64 rfl ?_
  refine b_newI 64 9 dX2_init_7 rfl bw_arr (by decide) (by decide) (Nat.le_of_ble_eq_true rfl) (Nat.le_of_ble_eq_true rfl) (Nat.le_of_ble_eq_true rfl) (fun q1 => ?_)
  refine b_putF (ty := (.array .int)) ([(a, .inr (2, [.ref q1, .null, .null, .null, .null, .null, .null, .null, .null, .null, .null, .null, .int 0, .int 0, .int 0, .int 0, .int 0])), (q1, bA J 64)]) 12 dX2_init_9 rfl fl_X2_9 kfi_2_0 rfl rfl rfl rfl rfl (Nat.le_of_ble_eq_true rfl) ?_
  refine b_aload 0 13 dX2_init_12 rfl rfl ?_
  refine b_iconst (2 : Int32) 14 dX2_init_13 kiconst_2 rfl ?_
  refine b_newI 2 16 dX2_init_14 rfl bw_arr (by decide) (by decide) (Nat.le_of_ble_eq_true rfl) (Nat.le_of_ble_eq_true rfl) (Nat.le_of_ble_eq_true rfl) (fun q2 => ?_)
  refine b_putF (ty := (.array .int)) ([(a, .inr (2, [.ref q1, .ref q2, .null, .null, .null, .null, .null, .null, .null, .null, .null, .null, .int 0, .int 0, .int 0, .int 0, .int 0])), (q1, bA J 64), (q2, bA J 2)]) 19 dX2_init_16 rfl fl_X2_15 kfi_2_1 rfl rfl rfl rfl rfl (Nat.le_of_ble_eq_true rfl) ?_
  refine b_aload 0 20 dX2_init_19 rfl rfl ?_
  refine b_iconst (5 : Int32) 21 dX2_init_20 kiconst_5 rfl ?_
  refine b_newI 5 23 dX2_init_21 rfl bw_arr (by decide) (by decide) (Nat.le_of_ble_eq_true rfl) (Nat.le_of_ble_eq_true rfl) (Nat.le_of_ble_eq_true rfl) (fun q3 => ?_)
  refine b_putF (ty := (.array .int)) ([(a, .inr (2, [.ref q1, .ref q2, .ref q3, .null, .null, .null, .null, .null, .null, .null, .null, .null, .int 0, .int 0, .int 0, .int 0, .int 0])), (q1, bA J 64), (q2, bA J 2), (q3, bA J 5)]) 26 dX2_init_23 rfl fl_X2_18 kfi_2_2 rfl rfl rfl rfl rfl (Nat.le_of_ble_eq_true rfl) ?_
  refine b_aload 0 27 dX2_init_26 rfl rfl ?_
  refine b_iconst (5 : Int32) 28 dX2_init_27 kiconst_5 rfl ?_
  refine b_newI 5 30 dX2_init_28 rfl bw_arr (by decide) (by decide) (Nat.le_of_ble_eq_true rfl) (Nat.le_of_ble_eq_true rfl) (Nat.le_of_ble_eq_true rfl) (fun q4 => ?_)
  refine b_putF (ty := (.array .int)) ([(a, .inr (2, [.ref q1, .ref q2, .ref q3, .ref q4, .null, .null, .null, .null, .null, .null, .null, .null, .int 0, .int 0, .int 0, .int 0, .int 0])), (q1, bA J 64), (q2, bA J 2), (q3, bA J 5), (q4, bA J 5)]) 33 dX2_init_30 rfl fl_X2_21 kfi_2_3 rfl rfl rfl rfl rfl (Nat.le_of_ble_eq_true rfl) ?_
  refine b_aload 0 34 dX2_init_33 rfl rfl ?_
  refine b_bipush (15 : Int32) 36 dX2_init_34 kbipush_15 rfl ?_
  refine b_newI 15 38 dX2_init_36 rfl bw_arr (by decide) (by decide) (Nat.le_of_ble_eq_true rfl) (Nat.le_of_ble_eq_true rfl) (Nat.le_of_ble_eq_true rfl) (fun q5 => ?_)
  refine b_putF (ty := (.array .int)) ([(a, .inr (2, [.ref q1, .ref q2, .ref q3, .ref q4, .ref q5, .null, .null, .null, .null, .null, .null, .null, .int 0, .int 0, .int 0, .int 0, .int 0])), (q1, bA J 64), (q2, bA J 2), (q3, bA J 5), (q4, bA J 5), (q5, bA J 15)]) 41 dX2_init_38 rfl fl_X2_24 kfi_2_4 rfl rfl rfl rfl rfl (Nat.le_of_ble_eq_true rfl) ?_
  refine b_aload 0 42 dX2_init_41 rfl rfl ?_
  refine b_bipush (15 : Int32) 44 dX2_init_42 kbipush_15 rfl ?_
  refine b_newI 15 46 dX2_init_44 rfl bw_arr (by decide) (by decide) (Nat.le_of_ble_eq_true rfl) (Nat.le_of_ble_eq_true rfl) (Nat.le_of_ble_eq_true rfl) (fun q6 => ?_)
  refine b_putF (ty := (.array .int)) ([(a, .inr (2, [.ref q1, .ref q2, .ref q3, .ref q4, .ref q5, .ref q6, .null, .null, .null, .null, .null, .null, .int 0, .int 0, .int 0, .int 0, .int 0])), (q1, bA J 64), (q2, bA J 2), (q3, bA J 5), (q4, bA J 5), (q5, bA J 15), (q6, bA J 15)]) 49 dX2_init_46 rfl fl_X2_27 kfi_2_5 rfl rfl rfl rfl rfl (Nat.le_of_ble_eq_true rfl) ?_
  refine b_aload 0 50 dX2_init_49 rfl rfl ?_
  refine b_bipush (15 : Int32) 52 dX2_init_50 kbipush_15 rfl ?_
  refine b_newI 15 54 dX2_init_52 rfl bw_arr (by decide) (by decide) (Nat.le_of_ble_eq_true rfl) (Nat.le_of_ble_eq_true rfl) (Nat.le_of_ble_eq_true rfl) (fun q7 => ?_)
  refine b_putF (ty := (.array .int)) ([(a, .inr (2, [.ref q1, .ref q2, .ref q3, .ref q4, .ref q5, .ref q6, .ref q7, .null, .null, .null, .null, .null, .int 0, .int 0, .int 0, .int 0, .int 0])), (q1, bA J 64), (q2, bA J 2), (q3, bA J 5), (q4, bA J 5), (q5, bA J 15), (q6, bA J 15), (q7, bA J 15)]) 57 dX2_init_54 rfl fl_X2_30 kfi_2_6 rfl rfl rfl rfl rfl (Nat.le_of_ble_eq_true rfl) ?_
  refine b_aload 0 58 dX2_init_57 rfl rfl ?_
  refine b_bipush (15 : Int32) 60 dX2_init_58 kbipush_15 rfl ?_
  refine b_newI 15 62 dX2_init_60 rfl bw_arr (by decide) (by decide) (Nat.le_of_ble_eq_true rfl) (Nat.le_of_ble_eq_true rfl) (Nat.le_of_ble_eq_true rfl) (fun q8 => ?_)
  refine b_putF (ty := (.array .int)) ([(a, .inr (2, [.ref q1, .ref q2, .ref q3, .ref q4, .ref q5, .ref q6, .ref q7, .ref q8, .null, .null, .null, .null, .int 0, .int 0, .int 0, .int 0, .int 0])), (q1, bA J 64), (q2, bA J 2), (q3, bA J 5), (q4, bA J 5), (q5, bA J 15), (q6, bA J 15), (q7, bA J 15), (q8, bA J 15)]) 65 dX2_init_62 rfl fl_X2_33 kfi_2_7 rfl rfl rfl rfl rfl (Nat.le_of_ble_eq_true rfl) ?_
  refine b_aload 0 66 dX2_init_65 rfl rfl ?_
  refine b_bipush (60 : Int32) 68 dX2_init_66 kbipush_60 rfl ?_
  refine b_newI 60 70 dX2_init_68 rfl bw_arr (by decide) (by decide) (Nat.le_of_ble_eq_true rfl) (Nat.le_of_ble_eq_true rfl) (Nat.le_of_ble_eq_true rfl) (fun q9 => ?_)
  refine b_putF (ty := (.array .int)) ([(a, .inr (2, [.ref q1, .ref q2, .ref q3, .ref q4, .ref q5, .ref q6, .ref q7, .ref q8, .ref q9, .null, .null, .null, .int 0, .int 0, .int 0, .int 0, .int 0])), (q1, bA J 64), (q2, bA J 2), (q3, bA J 5), (q4, bA J 5), (q5, bA J 15), (q6, bA J 15), (q7, bA J 15), (q8, bA J 15), (q9, bA J 60)]) 73 dX2_init_70 rfl fl_X2_36 kfi_2_8 rfl rfl rfl rfl rfl (Nat.le_of_ble_eq_true rfl) ?_
  refine b_aload 0 74 dX2_init_73 rfl rfl ?_
  refine b_bipush (24 : Int32) 76 dX2_init_74 kbipush_24 rfl ?_
  refine b_newI 24 78 dX2_init_76 rfl bw_arr (by decide) (by decide) (Nat.le_of_ble_eq_true rfl) (Nat.le_of_ble_eq_true rfl) (Nat.le_of_ble_eq_true rfl) (fun q10 => ?_)
  refine b_putF (ty := (.array .int)) ([(a, .inr (2, [.ref q1, .ref q2, .ref q3, .ref q4, .ref q5, .ref q6, .ref q7, .ref q8, .ref q9, .ref q10, .null, .null, .int 0, .int 0, .int 0, .int 0, .int 0])), (q1, bA J 64), (q2, bA J 2), (q3, bA J 5), (q4, bA J 5), (q5, bA J 15), (q6, bA J 15), (q7, bA J 15), (q8, bA J 15), (q9, bA J 60), (q10, bA J 24)]) 81 dX2_init_78 rfl fl_X2_39 kfi_2_9 rfl rfl rfl rfl rfl (Nat.le_of_ble_eq_true rfl) ?_
  refine b_aload 0 82 dX2_init_81 rfl rfl ?_
  refine b_new [.null, .null, .int 0] 85 dX2_init_82 rfl (ci := 6) (C := RX6) (T := TX6) (N := 3) (ts := tyX6) rfl tw_in6 tyX6_ok bw_new_X2_42 bdf_6 (Nat.le_of_ble_eq_true rfl) (Nat.le_of_ble_eq_true rfl) (fun z1 => ?_)
  refine b_dup 86 dX2_init_85 rfl ?_
  refine b_make 89 dX2_init_86 rfl (mk_6 J) rfl bw_mk_X2_44 ⟨(Nat.le_of_ble_eq_true rfl), (Nat.le_of_ble_eq_true rfl)⟩ ⟨(Nat.le_of_ble_eq_true rfl), (Nat.le_of_ble_eq_true rfl)⟩ (Nat.le_of_ble_eq_true rfl) (fun u1 hu1 => ?_)
  subst hu1
  refine b_putF (ty := (.object "KnottedWinds$Text")) (([(a, .inr (2, [.ref q1, .ref q2, .ref q3, .ref q4, .ref q5, .ref q6, .ref q7, .ref q8, .ref q9, .ref q10, .ref (bt6 u1), .null, .int 0, .int 0, .int 0, .int 0, .int 0])), (q1, bA J 64), (q2, bA J 2), (q3, bA J 5), (q4, bA J 5), (q5, bA J 15), (q6, bA J 15), (q7, bA J 15), (q8, bA J 15), (q9, bA J 60), (q10, bA J 24)] ++ bo6 J u1)) 92 dX2_init_89 rfl fl_X2_45 kfi_2_10 rfl rfl rfl rfl rfl (Nat.le_of_ble_eq_true rfl) ?_
  refine b_aload 0 93 dX2_init_92 rfl rfl ?_
  refine b_new [.null, .null, .int 0] 96 dX2_init_93 rfl (ci := 6) (C := RX6) (T := TX6) (N := 3) (ts := tyX6) rfl tw_in6 tyX6_ok bw_new_X2_42 bdf_6 (Nat.le_of_ble_eq_true rfl) (Nat.le_of_ble_eq_true rfl) (fun z2 => ?_)
  refine b_dup 97 dX2_init_96 rfl ?_
  refine b_make 100 dX2_init_97 rfl (mk_6 J) rfl bw_mk_X2_44 ⟨(Nat.le_of_ble_eq_true rfl), (Nat.le_of_ble_eq_true rfl)⟩ ⟨(Nat.le_of_ble_eq_true rfl), (Nat.le_of_ble_eq_true rfl)⟩ (Nat.le_of_ble_eq_true rfl) (fun u2 hu2 => ?_)
  subst hu2
  refine b_putF (ty := (.object "KnottedWinds$Text")) ((([(a, .inr (2, [.ref q1, .ref q2, .ref q3, .ref q4, .ref q5, .ref q6, .ref q7, .ref q8, .ref q9, .ref q10, .ref (bt6 u1), .ref (bt6 u2), .int 0, .int 0, .int 0, .int 0, .int 0])), (q1, bA J 64), (q2, bA J 2), (q3, bA J 5), (q4, bA J 5), (q5, bA J 15), (q6, bA J 15), (q7, bA J 15), (q8, bA J 15), (q9, bA J 60), (q10, bA J 24)] ++ bo6 J u1) ++ bo6 J u2)) 103 dX2_init_100 rfl fl_X2_49 kfi_2_11 rfl rfl rfl rfl rfl (Nat.le_of_ble_eq_true rfl) ?_
  refine b_aload 0 104 dX2_init_103 rfl rfl ?_
  refine b_iconst (1 : Int32) 105 dX2_init_104 kiconst_1 rfl ?_
  refine b_put (ty := .int) ((([(a, .inr (2, [.ref q1, .ref q2, .ref q3, .ref q4, .ref q5, .ref q6, .ref q7, .ref q8, .ref q9, .ref q10, .ref (bt6 u1), .ref (bt6 u2), .int 0, .int 0, .int 0, .int 0, .int 1])), (q1, bA J 64), (q2, bA J 2), (q3, bA J 5), (q4, bA J 5), (q5, bA J 15), (q6, bA J 15), (q7, bA J 15), (q8, bA J 15), (q9, bA J 60), (q10, bA J 24)] ++ bo6 J u1) ++ bo6 J u2)) 108 dX2_init_105 rfl fl_X2_52 fin_2_16 rfl rfl rfl rfl (Nat.le_of_ble_eq_true rfl) ?_
  exact b_ret ((fun i => [a, q1, q2, q3, q4, q5, q6, q7, q8, q9, q10].getD i 0), u1, u2) dX2_init_108 rfl rfl rfl (Nat.le_of_ble_eq_true rfl) (Nat.le_of_ble_eq_true rfl)
theorem bw_obj_1 : Cond.methodLink RX1 3 objectInit ∈ TW ∧ Cond.instanceMethod objectInit ∈ TW ∧ Cond.code objectInit ⟨#[0xb1]⟩ 1 none ∈ TW := ⟨tw_mem (List.mem_of_getElem? (i := 203) (by decide +kernel)) rfl, bw_oi, bw_oc⟩
theorem bw_new_X1_9 : Cond.classLink RX1 9 RX6 ∈ TW ∧ Cond.instantiable RX6 3 ∈ TW ∧ Cond.initialized RX6 ∈ TW := ⟨tw_mem (List.mem_of_getElem? (i := 204) (by decide +kernel)) rfl, tw_mem (List.mem_of_getElem? (i := 107) (by decide +kernel)) rfl, tw_mem (List.mem_of_getElem? (i := 78) (by decide +kernel)) rfl⟩
theorem bw_mk_X1_11 : kLI RX1 11 m_X6_init "KnottedWinds" := ⟨List.mem_filter.mpr ⟨(List.mem_of_getElem? (i := 205) (by decide +kernel)), rfl⟩, tw_mem (List.mem_of_getElem? (i := 109) (by decide +kernel)) rfl, tw_mem (List.mem_of_getElem? (i := 78) (by decide +kernel)) rfl, tw_mem (List.mem_of_getElem? (i := 110) (by decide +kernel)) rfl, rfl, ⟨by decide +kernel, by decide +kernel, by decide +kernel⟩⟩
theorem kfi_1_0 : kFf 1 0 RX1 := fun q h => by cases h; exact ⟨rfl, rfl⟩
theorem kfi_1_1 : kFf 1 1 RX1 := fun q h => by cases h; exact ⟨rfl, rfl⟩
abbrev bS1 : Type := (Nat → Nat) × bS6
abbrev bt1 (u : bS1) : Nat := (u.1 0)
def bo1 (J : bJ) (u : bS1) : va_W := (([((u.1 0), .inr (1, [.ref (bt6 u.2), .ref (u.1 1), .int 0, .int 0, .int 0, .ref J.2.2.2.2.2]))] ++ bo6 J u.2) ++ [((u.1 1), bA J 60)])
set_option maxRecDepth 20000 in
theorem mk_1 (J : bJ) : Mk J 2 4 183 m_X1_init (.inr (1, [.null, .null, .int 0, .int 0, .int 0, .null])) bt1 (bo1 J) := by
  refine Mk.of (by decide +kernel) (Nat.le_of_ble_eq_true rfl) rfl (fun a => ?_)
  refine b_aload 0 1 dX1_init_0 rfl rfl ?_
  refine b_obj 4 dX1_init_1 rfl bw_obj_1 ⟨(Nat.le_of_ble_eq_true rfl), (Nat.le_of_ble_eq_true rfl)⟩ ?_
  refine b_aload 0 5 dX1_init_4 rfl rfl ?_
  refine b_new [.null, .null, .int 0] 8 dX1_init_5 rfl (ci := 6) (C := RX6) (T := TX6) (N := 3) (ts := tyX6) rfl tw_in6 tyX6_ok bw_new_X1_9 bdf_6 (Nat.le_of_ble_eq_true rfl) (Nat.le_of_ble_eq_true rfl) (fun z1 => ?_)
  refine b_dup 9 dX1_init_8 rfl ?_
  refine b_make 12 dX1_init_9 rfl (mk_6 J) rfl bw_mk_X1_11 ⟨(Nat.le_of_ble_eq_true rfl), (Nat.le_of_ble_eq_true rfl)⟩ ⟨(Nat.le_of_ble_eq_true rfl), (Nat.le_of_ble_eq_true rfl)⟩ (Nat.le_of_ble_eq_true rfl) (fun u1 hu1 => ?_)
  subst hu1
  refine b_putF (ty := (.object "KnottedWinds$Text")) (([(a, .inr (1, [.ref (bt6 u1), .null, .int 0, .int 0, .int 0, .null]))] ++ bo6 J u1)) 15 dX1_init_12 rfl fl_X1_12 kfi_1_0 rfl rfl rfl rfl rfl (Nat.le_of_ble_eq_true rfl) ?_
  refine b_aload 0 16 dX1_init_15 rfl rfl ?_
  refine b_bipush (60 : Int32) 18 dX1_init_16 kbipush_60 rfl ?_
  refine b_newI 60 20 dX1_init_18 rfl bw_arr (by decide) (by decide) (Nat.le_of_ble_eq_true rfl) (Nat.le_of_ble_eq_true rfl) (Nat.le_of_ble_eq_true rfl) (fun q1 => ?_)
  refine b_putF (ty := (.array .int)) ((([(a, .inr (1, [.ref (bt6 u1), .ref q1, .int 0, .int 0, .int 0, .null]))] ++ bo6 J u1) ++ [(q1, bA J 60)])) 23 dX1_init_20 rfl fl_X1_18 kfi_1_1 rfl rfl rfl rfl rfl (Nat.le_of_ble_eq_true rfl) ?_
  refine b_aload 0 24 dX1_init_23 rfl rfl ?_
  refine b_ldc (st' := []) 26 dX1_init_24 rfl rfl ?_
  refine b_put (ty := (.object "java/lang/String")) ((([(a, .inr (1, [.ref (bt6 u1), .ref q1, .int 0, .int 0, .int 0, .ref J.2.2.2.2.2]))] ++ bo6 J u1) ++ [(q1, bA J 60)])) 29 dX1_init_26 rfl fl_X1_24 fin_1_5 rfl rfl rfl rfl (Nat.le_of_ble_eq_true rfl) ?_
  exact b_ret ((fun i => [a, q1].getD i 0), u1) dX1_init_29 rfl rfl rfl (Nat.le_of_ble_eq_true rfl) (Nat.le_of_ble_eq_true rfl)
theorem bw_obj_0 : Cond.methodLink RX0 3 objectInit ∈ TW ∧ Cond.instanceMethod objectInit ∈ TW ∧ Cond.code objectInit ⟨#[0xb1]⟩ 1 none ∈ TW := ⟨tw_mem (List.mem_of_getElem? (i := 233) (by decide +kernel)) rfl, bw_oi, bw_oc⟩
theorem kfi_0_0 : kFf 0 0 RX0 := fun q h => by cases h; exact ⟨rfl, rfl⟩
theorem kfi_0_1 : kFf 0 1 RX0 := fun q h => by cases h; exact ⟨rfl, rfl⟩
theorem kfi_0_2 : kFf 0 2 RX0 := fun q h => by cases h; exact ⟨rfl, rfl⟩
theorem bw_co : Cond.classLink RX0 21 ("[" ++ (FieldType.array .int).toString) ∈ TW ∧ Cond.arrayClass .int ∈ TW := ⟨tw_mem (List.mem_of_getElem? (i := 234) (by decide +kernel)) rfl, bw_arr⟩
theorem kfi_0_3 : kFf 0 3 RX0 := fun q h => by cases h; exact ⟨rfl, rfl⟩
theorem kfi_0_4 : kFf 0 4 RX0 := fun q h => by cases h; exact ⟨rfl, rfl⟩
abbrev bS0 : Type := (Nat → Nat)
abbrev bt0 (u : bS0) : Nat := (u 0)
def bo0 (J : bJ) (u : bS0) : va_W := (([((u 0), .inr (0, [.ref (u 1), .ref (u 2), .ref (u 3), .ref (u 4), .ref (u 5), .int 0, .int 0, .int 0, .int 0, .int 0, .int 0])), ((u 1), bA J 24), ((u 2), bA J 24), ((u 3), bA J 24)] ++ (bCo J (u 4))) ++ [((u 5), bA J 5)])
set_option maxRecDepth 20000 in
theorem mk_0 (J : bJ) : Mk J 1 30 227 m_X0_init (.inr (0, [.null, .null, .null, .null, .null, .int 0, .int 0, .int 0, .int 0, .int 0, .int 0])) bt0 (bo0 J) := by
  refine Mk.of (by decide +kernel) (Nat.le_of_ble_eq_true rfl) rfl (fun a => ?_)
  refine b_aload 0 1 dX0_init_0 rfl rfl ?_
  refine b_obj 4 dX0_init_1 rfl bw_obj_0 ⟨(Nat.le_of_ble_eq_true rfl), (Nat.le_of_ble_eq_true rfl)⟩ ?_
  refine b_aload 0 5 dX0_init_4 rfl rfl ?_
  refine b_bipush (24 : Int32) 7 dX0_init_5 kbipush_24 rfl ?_
  refine b_newI 24 9 dX0_init_7 rfl bw_arr (by decide) (by decide) (Nat.le_of_ble_eq_true rfl) (Nat.le_of_ble_eq_true rfl) (Nat.le_of_ble_eq_true rfl) (fun q1 => ?_)
  refine b_putF (ty := (.array .int)) ([(a, .inr (0, [.ref q1, .null, .null, .null, .null, .int 0, .int 0, .int 0, .int 0, .int 0, .int 0])), (q1, bA J 24)]) 12 dX0_init_9 rfl fl_X0_9 kfi_0_0 rfl rfl rfl rfl rfl (Nat.le_of_ble_eq_true rfl) ?_
  refine b_aload 0 13 dX0_init_12 rfl rfl ?_
  refine b_bipush (24 : Int32) 15 dX0_init_13 kbipush_24 rfl ?_
  refine b_newI 24 17 dX0_init_15 rfl bw_arr (by decide) (by decide) (Nat.le_of_ble_eq_true rfl) (Nat.le_of_ble_eq_true rfl) (Nat.le_of_ble_eq_true rfl) (fun q2 => ?_)
  refine b_putF (ty := (.array .int)) ([(a, .inr (0, [.ref q1, .ref q2, .null, .null, .null, .int 0, .int 0, .int 0, .int 0, .int 0, .int 0])), (q1, bA J 24), (q2, bA J 24)]) 20 dX0_init_17 rfl fl_X0_15 kfi_0_1 rfl rfl rfl rfl rfl (Nat.le_of_ble_eq_true rfl) ?_
  refine b_aload 0 21 dX0_init_20 rfl rfl ?_
  refine b_bipush (24 : Int32) 23 dX0_init_21 kbipush_24 rfl ?_
  refine b_newI 24 25 dX0_init_23 rfl bw_arr (by decide) (by decide) (Nat.le_of_ble_eq_true rfl) (Nat.le_of_ble_eq_true rfl) (Nat.le_of_ble_eq_true rfl) (fun q3 => ?_)
  refine b_putF (ty := (.array .int)) ([(a, .inr (0, [.ref q1, .ref q2, .ref q3, .null, .null, .int 0, .int 0, .int 0, .int 0, .int 0, .int 0])), (q1, bA J 24), (q2, bA J 24), (q3, bA J 24)]) 28 dX0_init_25 rfl fl_X0_18 kfi_0_2 rfl rfl rfl rfl rfl (Nat.le_of_ble_eq_true rfl) ?_
  refine b_aload 0 29 dX0_init_28 rfl rfl ?_
  refine b_bipush (25 : Int32) 31 dX0_init_29 kbipush_25 rfl ?_
  refine b_iconst (5 : Int32) 32 dX0_init_31 kiconst_5 rfl ?_
  refine b_newC 36 dX0_init_32 rfl bw_co (Nat.le_of_ble_eq_true rfl) (Nat.le_of_ble_eq_true rfl) (fun q4 => ?_)
  refine b_putF (ty := (.array (.array .int))) (([(a, .inr (0, [.ref q1, .ref q2, .ref q3, .ref q4, .null, .int 0, .int 0, .int 0, .int 0, .int 0, .int 0])), (q1, bA J 24), (q2, bA J 24), (q3, bA J 24)] ++ (bCo J q4))) 39 dX0_init_36 rfl fl_X0_23 kfi_0_3 rfl rfl rfl rfl rfl (Nat.le_of_ble_eq_true rfl) ?_
  refine b_aload 0 40 dX0_init_39 rfl rfl ?_
  refine b_iconst (5 : Int32) 41 dX0_init_40 kiconst_5 rfl ?_
  refine b_newI 5 43 dX0_init_41 rfl bw_arr (by decide) (by decide) (Nat.le_of_ble_eq_true rfl) (Nat.le_of_ble_eq_true rfl) (Nat.le_of_ble_eq_true rfl) (fun q5 => ?_)
  refine b_putF (ty := (.array .int)) ((([(a, .inr (0, [.ref q1, .ref q2, .ref q3, .ref q4, .ref q5, .int 0, .int 0, .int 0, .int 0, .int 0, .int 0])), (q1, bA J 24), (q2, bA J 24), (q3, bA J 24)] ++ (bCo J q4)) ++ [(q5, bA J 5)])) 46 dX0_init_43 rfl fl_X0_26 kfi_0_4 rfl rfl rfl rfl rfl (Nat.le_of_ble_eq_true rfl) ?_
  exact b_ret (fun i => [a, q1, q2, q3, q4, q5].getD i 0) dX0_init_46 rfl rfl rfl (Nat.le_of_ble_eq_true rfl) (Nat.le_of_ble_eq_true rfl)
theorem bw_obj_3 : Cond.methodLink RX3 3 objectInit ∈ TW ∧ Cond.instanceMethod objectInit ∈ TW ∧ Cond.code objectInit ⟨#[0xb1]⟩ 1 none ∈ TW := ⟨tw_mem (List.mem_of_getElem? (i := 280) (by decide +kernel)) rfl, bw_oi, bw_oc⟩
theorem kfi_3_0 : kFf 3 0 RX3 := fun q h => by cases h; exact ⟨rfl, rfl⟩
theorem kfi_3_1 : kFf 3 1 RX3 := fun q h => by cases h; exact ⟨rfl, rfl⟩
theorem kfi_3_2 : kFf 3 2 RX3 := fun q h => by cases h; exact ⟨rfl, rfl⟩
theorem kfi_3_3 : kFf 3 3 RX3 := fun q h => by cases h; exact ⟨rfl, rfl⟩
abbrev bS3 : Type := (Nat → Nat)
abbrev bt3 (u : bS3) : Nat := (u 0)
def bo3 (J : bJ) (u : bS3) : va_W := [((u 0), .inr (3, [.ref (u 1), .ref (u 2), .ref (u 3), .ref (u 4), .int 0, .int 0, .int 0, .int 0, .int 0, .int 0])), ((u 1), bA J 10), ((u 2), bA J 10), ((u 3), bA J 30), ((u 4), bA J 3)]
set_option maxRecDepth 20000 in
theorem mk_3 (J : bJ) : Mk J 1 4 53 m_X3_init (.inr (3, [.null, .null, .null, .null, .int 0, .int 0, .int 0, .int 0, .int 0, .int 0])) bt3 (bo3 J) := by
  refine Mk.of (by decide +kernel) (Nat.le_of_ble_eq_true rfl) rfl (fun a => ?_)
  refine b_aload 0 1 dX3_init_0 rfl rfl ?_
  refine b_obj 4 dX3_init_1 rfl bw_obj_3 ⟨(Nat.le_of_ble_eq_true rfl), (Nat.le_of_ble_eq_true rfl)⟩ ?_
  refine b_aload 0 5 dX3_init_4 rfl rfl ?_
  refine b_bipush (10 : Int32) 7 dX3_init_5 kbipush_10 rfl ?_
  refine b_newI 10 9 dX3_init_7 rfl bw_arr (by decide) (by decide) (Nat.le_of_ble_eq_true rfl) (Nat.le_of_ble_eq_true rfl) (Nat.le_of_ble_eq_true rfl) (fun q1 => ?_)
  refine b_putF (ty := (.array .int)) ([(a, .inr (3, [.ref q1, .null, .null, .null, .int 0, .int 0, .int 0, .int 0, .int 0, .int 0])), (q1, bA J 10)]) 12 dX3_init_9 rfl fl_X3_9 kfi_3_0 rfl rfl rfl rfl rfl (Nat.le_of_ble_eq_true rfl) ?_
  refine b_aload 0 13 dX3_init_12 rfl rfl ?_
  refine b_bipush (10 : Int32) 15 dX3_init_13 kbipush_10 rfl ?_
  refine b_newI 10 17 dX3_init_15 rfl bw_arr (by decide) (by decide) (Nat.le_of_ble_eq_true rfl) (Nat.le_of_ble_eq_true rfl) (Nat.le_of_ble_eq_true rfl) (fun q2 => ?_)
  refine b_putF (ty := (.array .int)) ([(a, .inr (3, [.ref q1, .ref q2, .null, .null, .int 0, .int 0, .int 0, .int 0, .int 0, .int 0])), (q1, bA J 10), (q2, bA J 10)]) 20 dX3_init_17 rfl fl_X3_15 kfi_3_1 rfl rfl rfl rfl rfl (Nat.le_of_ble_eq_true rfl) ?_
  refine b_aload 0 21 dX3_init_20 rfl rfl ?_
  refine b_bipush (30 : Int32) 23 dX3_init_21 kbipush_30 rfl ?_
  refine b_newI 30 25 dX3_init_23 rfl bw_arr (by decide) (by decide) (Nat.le_of_ble_eq_true rfl) (Nat.le_of_ble_eq_true rfl) (Nat.le_of_ble_eq_true rfl) (fun q3 => ?_)
  refine b_putF (ty := (.array .int)) ([(a, .inr (3, [.ref q1, .ref q2, .ref q3, .null, .int 0, .int 0, .int 0, .int 0, .int 0, .int 0])), (q1, bA J 10), (q2, bA J 10), (q3, bA J 30)]) 28 dX3_init_25 rfl fl_X3_18 kfi_3_2 rfl rfl rfl rfl rfl (Nat.le_of_ble_eq_true rfl) ?_
  refine b_aload 0 29 dX3_init_28 rfl rfl ?_
  refine b_iconst (3 : Int32) 30 dX3_init_29 kiconst_3 rfl ?_
  refine b_newI 3 32 dX3_init_30 rfl bw_arr (by decide) (by decide) (Nat.le_of_ble_eq_true rfl) (Nat.le_of_ble_eq_true rfl) (Nat.le_of_ble_eq_true rfl) (fun q4 => ?_)
  refine b_putF (ty := (.array .int)) ([(a, .inr (3, [.ref q1, .ref q2, .ref q3, .ref q4, .int 0, .int 0, .int 0, .int 0, .int 0, .int 0])), (q1, bA J 10), (q2, bA J 10), (q3, bA J 30), (q4, bA J 3)]) 35 dX3_init_32 rfl fl_X3_21 kfi_3_3 rfl rfl rfl rfl rfl (Nat.le_of_ble_eq_true rfl) ?_
  exact b_ret (fun i => [a, q1, q2, q3, q4].getD i 0) dX3_init_35 rfl rfl rfl (Nat.le_of_ble_eq_true rfl) (Nat.le_of_ble_eq_true rfl)
theorem bw_obj_5 : Cond.methodLink RX5 3 objectInit ∈ TW ∧ Cond.instanceMethod objectInit ∈ TW ∧ Cond.code objectInit ⟨#[0xb1]⟩ 1 none ∈ TW := ⟨tw_mem (List.mem_of_getElem? (i := 320) (by decide +kernel)) rfl, bw_oi, bw_oc⟩
theorem kfi_5_0 : kFf 5 0 RX5 := fun q h => by cases h; exact ⟨rfl, rfl⟩
abbrev bS5 : Type := (Nat → Nat)
abbrev bt5 (u : bS5) : Nat := (u 0)
def bo5 (J : bJ) (u : bS5) : va_W := [((u 0), .inr (5, [.ref (u 1), .int 0, .int 0, .int 0, .int 0, .int 0])), ((u 1), bA J 30)]
set_option maxRecDepth 20000 in
theorem mk_5 (J : bJ) : Mk J 1 1 30 m_X5_init (.inr (5, [.null, .int 0, .int 0, .int 0, .int 0, .int 0])) bt5 (bo5 J) := by
  refine Mk.of (by decide +kernel) (Nat.le_of_ble_eq_true rfl) rfl (fun a => ?_)
  refine b_aload 0 1 dX5_init_0 rfl rfl ?_
  refine b_obj 4 dX5_init_1 rfl bw_obj_5 ⟨(Nat.le_of_ble_eq_true rfl), (Nat.le_of_ble_eq_true rfl)⟩ ?_
  refine b_aload 0 5 dX5_init_4 rfl rfl ?_
  refine b_bipush (30 : Int32) 7 dX5_init_5 kbipush_30 rfl ?_
  refine b_newI 30 9 dX5_init_7 rfl bw_arr (by decide) (by decide) (Nat.le_of_ble_eq_true rfl) (Nat.le_of_ble_eq_true rfl) (Nat.le_of_ble_eq_true rfl) (fun q1 => ?_)
  refine b_putF (ty := (.array .int)) ([(a, .inr (5, [.ref q1, .int 0, .int 0, .int 0, .int 0, .int 0])), (q1, bA J 30)]) 12 dX5_init_9 rfl fl_X5_11 kfi_5_0 rfl rfl rfl rfl rfl (Nat.le_of_ble_eq_true rfl) ?_
  exact b_ret (fun i => [a, q1].getD i 0) dX5_init_12 rfl rfl rfl (Nat.le_of_ble_eq_true rfl) (Nat.le_of_ble_eq_true rfl)
theorem bw_obj_4 : Cond.methodLink RX4 3 objectInit ∈ TW ∧ Cond.instanceMethod objectInit ∈ TW ∧ Cond.code objectInit ⟨#[0xb1]⟩ 1 none ∈ TW := ⟨tw_mem (List.mem_of_getElem? (i := 349) (by decide +kernel)) rfl, bw_oi, bw_oc⟩
theorem kfi_4_0 : kFf 4 0 RX4 := fun q h => by cases h; exact ⟨rfl, rfl⟩
abbrev bS4 : Type := (Nat → Nat)
abbrev bt4 (u : bS4) : Nat := (u 0)
def bo4 (J : bJ) (u : bS4) : va_W := [((u 0), .inr (4, [.ref (u 1), .int 0, .int 0])), ((u 1), bA J 24)]
set_option maxRecDepth 20000 in
theorem mk_4 (J : bJ) : Mk J 1 1 24 m_X4_init (.inr (4, [.null, .int 0, .int 0])) bt4 (bo4 J) := by
  refine Mk.of (by decide +kernel) (Nat.le_of_ble_eq_true rfl) rfl (fun a => ?_)
  refine b_aload 0 1 dX4_init_0 rfl rfl ?_
  refine b_obj 4 dX4_init_1 rfl bw_obj_4 ⟨(Nat.le_of_ble_eq_true rfl), (Nat.le_of_ble_eq_true rfl)⟩ ?_
  refine b_aload 0 5 dX4_init_4 rfl rfl ?_
  refine b_bipush (24 : Int32) 7 dX4_init_5 kbipush_24 rfl ?_
  refine b_newI 24 9 dX4_init_7 rfl bw_arr (by decide) (by decide) (Nat.le_of_ble_eq_true rfl) (Nat.le_of_ble_eq_true rfl) (Nat.le_of_ble_eq_true rfl) (fun q1 => ?_)
  refine b_putF (ty := (.array .int)) ([(a, .inr (4, [.ref q1, .int 0, .int 0])), (q1, bA J 24)]) 12 dX4_init_9 rfl fl_X4_9 kfi_4_0 rfl rfl rfl rfl rfl (Nat.le_of_ble_eq_true rfl) ?_
  exact b_ret (fun i => [a, q1].getD i 0) dX4_init_12 rfl rfl rfl (Nat.le_of_ble_eq_true rfl) (Nat.le_of_ble_eq_true rfl)
theorem bw_obj_7 : Cond.methodLink RX7 3 objectInit ∈ TW ∧ Cond.instanceMethod objectInit ∈ TW ∧ Cond.code objectInit ⟨#[0xb1]⟩ 1 none ∈ TW := ⟨tw_mem (List.mem_of_getElem? (i := 97) (by decide +kernel)) rfl, bw_oi, bw_oc⟩
theorem bw_new_X7_9 : Cond.classLink RX7 9 RX2 ∈ TW ∧ Cond.instantiable RX2 17 ∈ TW ∧ Cond.initialized RX2 ∈ TW := ⟨tw_mem (List.mem_of_getElem? (i := 100) (by decide +kernel)) rfl, tw_mem (List.mem_of_getElem? (i := 101) (by decide +kernel)) rfl, tw_mem (List.mem_of_getElem? (i := 77) (by decide +kernel)) rfl⟩
theorem bw_mk_X7_11 : kLI RX7 11 m_X2_init "KnottedWinds" := ⟨List.mem_filter.mpr ⟨(List.mem_of_getElem? (i := 102) (by decide +kernel)), rfl⟩, tw_mem (List.mem_of_getElem? (i := 103) (by decide +kernel)) rfl, tw_mem (List.mem_of_getElem? (i := 77) (by decide +kernel)) rfl, tw_mem (List.mem_of_getElem? (i := 104) (by decide +kernel)) rfl, rfl, ⟨by decide +kernel, by decide +kernel, by decide +kernel⟩⟩
theorem kfi_7_0 : kFf 7 0 RX7 := fun q h => by cases h; exact ⟨rfl, rfl⟩
theorem kfi_7_1 : kFf 7 1 RX7 := fun q h => by cases h; exact ⟨rfl, rfl⟩
theorem bw_new_X7_19 : Cond.classLink RX7 19 RX1 ∈ TW ∧ Cond.instantiable RX1 6 ∈ TW ∧ Cond.initialized RX1 ∈ TW := ⟨tw_mem (List.mem_of_getElem? (i := 198) (by decide +kernel)) rfl, tw_mem (List.mem_of_getElem? (i := 199) (by decide +kernel)) rfl, tw_mem (List.mem_of_getElem? (i := 79) (by decide +kernel)) rfl⟩
theorem bw_mk_X7_21 : kLI RX7 21 m_X1_init "KnottedWinds" := ⟨List.mem_filter.mpr ⟨(List.mem_of_getElem? (i := 200) (by decide +kernel)), rfl⟩, tw_mem (List.mem_of_getElem? (i := 201) (by decide +kernel)) rfl, tw_mem (List.mem_of_getElem? (i := 79) (by decide +kernel)) rfl, tw_mem (List.mem_of_getElem? (i := 202) (by decide +kernel)) rfl, rfl, ⟨by decide +kernel, by decide +kernel, by decide +kernel⟩⟩
theorem kfi_7_3 : kFf 7 3 RX7 := fun q h => by cases h; exact ⟨rfl, rfl⟩
theorem bw_new_X7_26 : Cond.classLink RX7 26 RX0 ∈ TW ∧ Cond.instantiable RX0 11 ∈ TW ∧ Cond.initialized RX0 ∈ TW := ⟨tw_mem (List.mem_of_getElem? (i := 228) (by decide +kernel)) rfl, tw_mem (List.mem_of_getElem? (i := 229) (by decide +kernel)) rfl, tw_mem (List.mem_of_getElem? (i := 80) (by decide +kernel)) rfl⟩
theorem bw_mk_X7_28 : kLI RX7 28 m_X0_init "KnottedWinds" := ⟨List.mem_filter.mpr ⟨(List.mem_of_getElem? (i := 230) (by decide +kernel)), rfl⟩, tw_mem (List.mem_of_getElem? (i := 231) (by decide +kernel)) rfl, tw_mem (List.mem_of_getElem? (i := 80) (by decide +kernel)) rfl, tw_mem (List.mem_of_getElem? (i := 232) (by decide +kernel)) rfl, rfl, ⟨by decide +kernel, by decide +kernel, by decide +kernel⟩⟩
theorem kfi_7_4 : kFf 7 4 RX7 := fun q h => by cases h; exact ⟨rfl, rfl⟩
theorem bw_new_X7_33 : Cond.classLink RX7 33 RX3 ∈ TW ∧ Cond.instantiable RX3 10 ∈ TW ∧ Cond.initialized RX3 ∈ TW := ⟨tw_mem (List.mem_of_getElem? (i := 275) (by decide +kernel)) rfl, tw_mem (List.mem_of_getElem? (i := 276) (by decide +kernel)) rfl, tw_mem (List.mem_of_getElem? (i := 81) (by decide +kernel)) rfl⟩
theorem bw_mk_X7_35 : kLI RX7 35 m_X3_init "KnottedWinds" := ⟨List.mem_filter.mpr ⟨(List.mem_of_getElem? (i := 277) (by decide +kernel)), rfl⟩, tw_mem (List.mem_of_getElem? (i := 278) (by decide +kernel)) rfl, tw_mem (List.mem_of_getElem? (i := 81) (by decide +kernel)) rfl, tw_mem (List.mem_of_getElem? (i := 279) (by decide +kernel)) rfl, rfl, ⟨by decide +kernel, by decide +kernel, by decide +kernel⟩⟩
theorem kfi_7_5 : kFf 7 5 RX7 := fun q h => by cases h; exact ⟨rfl, rfl⟩
theorem bw_new_X7_40 : Cond.classLink RX7 40 RX5 ∈ TW ∧ Cond.instantiable RX5 6 ∈ TW ∧ Cond.initialized RX5 ∈ TW := ⟨tw_mem (List.mem_of_getElem? (i := 315) (by decide +kernel)) rfl, tw_mem (List.mem_of_getElem? (i := 316) (by decide +kernel)) rfl, tw_mem (List.mem_of_getElem? (i := 82) (by decide +kernel)) rfl⟩
theorem bw_mk_X7_42 : kLI RX7 42 m_X5_init "KnottedWinds" := ⟨List.mem_filter.mpr ⟨(List.mem_of_getElem? (i := 317) (by decide +kernel)), rfl⟩, tw_mem (List.mem_of_getElem? (i := 318) (by decide +kernel)) rfl, tw_mem (List.mem_of_getElem? (i := 82) (by decide +kernel)) rfl, tw_mem (List.mem_of_getElem? (i := 319) (by decide +kernel)) rfl, rfl, ⟨by decide +kernel, by decide +kernel, by decide +kernel⟩⟩
theorem kfi_7_6 : kFf 7 6 RX7 := fun q h => by cases h; exact ⟨rfl, rfl⟩
theorem bw_sh : Cond.classLink RX7 47 RX4 ∈ TW := tw_mem (List.mem_of_getElem? (i := 343) (by decide +kernel)) rfl
theorem kfi_7_7 : kFf 7 7 RX7 := fun q h => by cases h; exact ⟨rfl, rfl⟩
theorem kfi_7_8 : kFf 7 8 RX7 := fun q h => by cases h; exact ⟨rfl, rfl⟩
theorem bw_new_X7_47 : Cond.classLink RX7 47 RX4 ∈ TW ∧ Cond.instantiable RX4 3 ∈ TW ∧ Cond.initialized RX4 ∈ TW := ⟨tw_mem (List.mem_of_getElem? (i := 343) (by decide +kernel)) rfl, tw_mem (List.mem_of_getElem? (i := 345) (by decide +kernel)) rfl, tw_mem (List.mem_of_getElem? (i := 83) (by decide +kernel)) rfl⟩
theorem bw_mk_X7_57 : kLI RX7 57 m_X4_init "KnottedWinds" := ⟨List.mem_filter.mpr ⟨(List.mem_of_getElem? (i := 346) (by decide +kernel)), rfl⟩, tw_mem (List.mem_of_getElem? (i := 347) (by decide +kernel)) rfl, tw_mem (List.mem_of_getElem? (i := 83) (by decide +kernel)) rfl, tw_mem (List.mem_of_getElem? (i := 348) (by decide +kernel)) rfl, rfl, ⟨by decide +kernel, by decide +kernel, by decide +kernel⟩⟩
theorem bin_0 : vp_in (0 : Int32) 4 := by unfold vp_in; decide
theorem bin_1 : vp_in (1 : Int32) 4 := by unfold vp_in; decide
theorem bin_2 : vp_in (2 : Int32) 4 := by unfold vp_in; decide
theorem bin_3 : vp_in (3 : Int32) 4 := by unfold vp_in; decide
abbrev bS7 : Type := (Nat → Nat) × bS2 × bS2 × bS1 × bS0 × bS3 × bS5 × bS4 × bS4 × bS4 × bS4
abbrev bt7 (u : bS7) : Nat := (u.1 0)
def bo7 (J : bJ) (u : bS7) : va_W := ((((((((((([((u.1 0), .inr (7, [.ref (bt2 u.2.1), .ref (bt2 u.2.2.1), .int 0, .ref (bt1 u.2.2.2.1), .ref (bt0 u.2.2.2.2.1), .ref (bt3 u.2.2.2.2.2.1), .ref (bt5 u.2.2.2.2.2.2.1), .ref (u.1 1), .ref (u.1 2)]))] ++ bo2 J u.2.1) ++ bo2 J u.2.2.1) ++ bo1 J u.2.2.2.1) ++ bo0 J u.2.2.2.2.1) ++ bo3 J u.2.2.2.2.2.1) ++ bo5 J u.2.2.2.2.2.2.1) ++ [((u.1 1), bSh J (va_up (va_up (va_up (va_up (fun _ => none) 0 (some (bt4 u.2.2.2.2.2.2.2.1))) 1 (some (bt4 u.2.2.2.2.2.2.2.2.1))) 2 (some (bt4 u.2.2.2.2.2.2.2.2.2.1))) 3 (some (bt4 u.2.2.2.2.2.2.2.2.2.2)))), ((u.1 2), bA J 7)]) ++ bo4 J u.2.2.2.2.2.2.2.1) ++ bo4 J u.2.2.2.2.2.2.2.2.1) ++ bo4 J u.2.2.2.2.2.2.2.2.2.1) ++ bo4 J u.2.2.2.2.2.2.2.2.2.2)
set_option maxRecDepth 20000 in
theorem mk_7 (J : bJ) : Mk J 3 87 1611 m_X7_init (.inr (7, [.null, .null, .int 0, .null, .null, .null, .null, .null, .null])) bt7 (bo7 J) := by
  refine Mk.of (by decide +kernel) (Nat.le_of_ble_eq_true rfl) rfl (fun a => ?_)
  refine b_aload 0 1 dX7_init_0 rfl rfl ?_
  refine b_obj 4 dX7_init_1 rfl bw_obj_7 ⟨(Nat.le_of_ble_eq_true rfl), (Nat.le_of_ble_eq_true rfl)⟩ ?_
  refine b_aload 0 5 dX7_init_4 rfl rfl ?_
  refine b_new [.null, .null, .null, .null, .null, .null, .null, .null, .null, .null, .null, .null, .int 0, .int 0, .int 0, .int 0, .int 0] 8 dX7_init_5 rfl (ci := 2) (C := RX2) (T := TX2) (N := 17) (ts := tyX2) rfl tw_in2 tyX2_ok bw_new_X7_9 bdf_2 (Nat.le_of_ble_eq_true rfl) (Nat.le_of_ble_eq_true rfl) (fun z1 => ?_)
  refine b_dup 9 dX7_init_8 rfl ?_
  refine b_make 12 dX7_init_9 rfl (mk_2 J) rfl bw_mk_X7_11 ⟨(Nat.le_of_ble_eq_true rfl), (Nat.le_of_ble_eq_true rfl)⟩ ⟨(Nat.le_of_ble_eq_true rfl), (Nat.le_of_ble_eq_true rfl)⟩ (Nat.le_of_ble_eq_true rfl) (fun u1 hu1 => ?_)
  subst hu1
  refine b_putF (ty := (.object "KnottedWinds$Sea")) (([(a, .inr (7, [.ref (bt2 u1), .null, .int 0, .null, .null, .null, .null, .null, .null]))] ++ bo2 J u1)) 15 dX7_init_12 rfl fl_X7_12 kfi_7_0 rfl rfl rfl rfl rfl (Nat.le_of_ble_eq_true rfl) ?_
  refine b_aload 0 16 dX7_init_15 rfl rfl ?_
  refine b_new [.null, .null, .null, .null, .null, .null, .null, .null, .null, .null, .null, .null, .int 0, .int 0, .int 0, .int 0, .int 0] 19 dX7_init_16 rfl (ci := 2) (C := RX2) (T := TX2) (N := 17) (ts := tyX2) rfl tw_in2 tyX2_ok bw_new_X7_9 bdf_2 (Nat.le_of_ble_eq_true rfl) (Nat.le_of_ble_eq_true rfl) (fun z2 => ?_)
  refine b_dup 20 dX7_init_19 rfl ?_
  refine b_make 23 dX7_init_20 rfl (mk_2 J) rfl bw_mk_X7_11 ⟨(Nat.le_of_ble_eq_true rfl), (Nat.le_of_ble_eq_true rfl)⟩ ⟨(Nat.le_of_ble_eq_true rfl), (Nat.le_of_ble_eq_true rfl)⟩ (Nat.le_of_ble_eq_true rfl) (fun u2 hu2 => ?_)
  subst hu2
  refine b_putF (ty := (.object "KnottedWinds$Sea")) ((([(a, .inr (7, [.ref (bt2 u1), .ref (bt2 u2), .int 0, .null, .null, .null, .null, .null, .null]))] ++ bo2 J u1) ++ bo2 J u2)) 26 dX7_init_23 rfl fl_X7_16 kfi_7_1 rfl rfl rfl rfl rfl (Nat.le_of_ble_eq_true rfl) ?_
  refine b_aload 0 27 dX7_init_26 rfl rfl ?_
  refine b_new [.null, .null, .int 0, .int 0, .int 0, .null] 30 dX7_init_27 rfl (ci := 1) (C := RX1) (T := TX1) (N := 6) (ts := tyX1) rfl tw_in1 tyX1_ok bw_new_X7_19 bdf_1 (Nat.le_of_ble_eq_true rfl) (Nat.le_of_ble_eq_true rfl) (fun z3 => ?_)
  refine b_dup 31 dX7_init_30 rfl ?_
  refine b_make 34 dX7_init_31 rfl (mk_1 J) rfl bw_mk_X7_21 ⟨(Nat.le_of_ble_eq_true rfl), (Nat.le_of_ble_eq_true rfl)⟩ ⟨(Nat.le_of_ble_eq_true rfl), (Nat.le_of_ble_eq_true rfl)⟩ (Nat.le_of_ble_eq_true rfl) (fun u3 hu3 => ?_)
  subst hu3
  refine b_putF (ty := (.object "KnottedWinds$Reader")) (((([(a, .inr (7, [.ref (bt2 u1), .ref (bt2 u2), .int 0, .ref (bt1 u3), .null, .null, .null, .null, .null]))] ++ bo2 J u1) ++ bo2 J u2) ++ bo1 J u3)) 37 dX7_init_34 rfl fl_X7_22 kfi_7_3 rfl rfl rfl rfl rfl (Nat.le_of_ble_eq_true rfl) ?_
  refine b_aload 0 38 dX7_init_37 rfl rfl ?_
  refine b_new [.null, .null, .null, .null, .null, .int 0, .int 0, .int 0, .int 0, .int 0, .int 0] 41 dX7_init_38 rfl (ci := 0) (C := RX0) (T := TX0) (N := 11) (ts := tyX0) rfl tw_in0 tyX0_ok bw_new_X7_26 bdf_0 (Nat.le_of_ble_eq_true rfl) (Nat.le_of_ble_eq_true rfl) (fun z4 => ?_)
  refine b_dup 42 dX7_init_41 rfl ?_
  refine b_make 45 dX7_init_42 rfl (mk_0 J) rfl bw_mk_X7_28 ⟨(Nat.le_of_ble_eq_true rfl), (Nat.le_of_ble_eq_true rfl)⟩ ⟨(Nat.le_of_ble_eq_true rfl), (Nat.le_of_ble_eq_true rfl)⟩ (Nat.le_of_ble_eq_true rfl) (fun u4 hu4 => ?_)
  subst hu4
  refine b_putF (ty := (.object "KnottedWinds$Foresight")) ((((([(a, .inr (7, [.ref (bt2 u1), .ref (bt2 u2), .int 0, .ref (bt1 u3), .ref (bt0 u4), .null, .null, .null, .null]))] ++ bo2 J u1) ++ bo2 J u2) ++ bo1 J u3) ++ bo0 J u4)) 48 dX7_init_45 rfl fl_X7_29 kfi_7_4 rfl rfl rfl rfl rfl (Nat.le_of_ble_eq_true rfl) ?_
  refine b_aload 0 49 dX7_init_48 rfl rfl ?_
  refine b_new [.null, .null, .null, .null, .int 0, .int 0, .int 0, .int 0, .int 0, .int 0] 52 dX7_init_49 rfl (ci := 3) (C := RX3) (T := TX3) (N := 10) (ts := tyX3) rfl tw_in3 tyX3_ok bw_new_X7_33 bdf_3 (Nat.le_of_ble_eq_true rfl) (Nat.le_of_ble_eq_true rfl) (fun z5 => ?_)
  refine b_dup 53 dX7_init_52 rfl ?_
  refine b_make 56 dX7_init_53 rfl (mk_3 J) rfl bw_mk_X7_35 ⟨(Nat.le_of_ble_eq_true rfl), (Nat.le_of_ble_eq_true rfl)⟩ ⟨(Nat.le_of_ble_eq_true rfl), (Nat.le_of_ble_eq_true rfl)⟩ (Nat.le_of_ble_eq_true rfl) (fun u5 hu5 => ?_)
  subst hu5
  refine b_putF (ty := (.object "KnottedWinds$Search")) (((((([(a, .inr (7, [.ref (bt2 u1), .ref (bt2 u2), .int 0, .ref (bt1 u3), .ref (bt0 u4), .ref (bt3 u5), .null, .null, .null]))] ++ bo2 J u1) ++ bo2 J u2) ++ bo1 J u3) ++ bo0 J u4) ++ bo3 J u5)) 59 dX7_init_56 rfl fl_X7_36 kfi_7_5 rfl rfl rfl rfl rfl (Nat.le_of_ble_eq_true rfl) ?_
  refine b_aload 0 60 dX7_init_59 rfl rfl ?_
  refine b_new [.null, .int 0, .int 0, .int 0, .int 0, .int 0] 63 dX7_init_60 rfl (ci := 5) (C := RX5) (T := TX5) (N := 6) (ts := tyX5) rfl tw_in5 tyX5_ok bw_new_X7_40 bdf_5 (Nat.le_of_ble_eq_true rfl) (Nat.le_of_ble_eq_true rfl) (fun z6 => ?_)
  refine b_dup 64 dX7_init_63 rfl ?_
  refine b_make 67 dX7_init_64 rfl (mk_5 J) rfl bw_mk_X7_42 ⟨(Nat.le_of_ble_eq_true rfl), (Nat.le_of_ble_eq_true rfl)⟩ ⟨(Nat.le_of_ble_eq_true rfl), (Nat.le_of_ble_eq_true rfl)⟩ (Nat.le_of_ble_eq_true rfl) (fun u6 hu6 => ?_)
  subst hu6
  refine b_putF (ty := (.object "KnottedWinds$Speaker")) ((((((([(a, .inr (7, [.ref (bt2 u1), .ref (bt2 u2), .int 0, .ref (bt1 u3), .ref (bt0 u4), .ref (bt3 u5), .ref (bt5 u6), .null, .null]))] ++ bo2 J u1) ++ bo2 J u2) ++ bo1 J u3) ++ bo0 J u4) ++ bo3 J u5) ++ bo5 J u6)) 70 dX7_init_67 rfl fl_X7_43 kfi_7_6 rfl rfl rfl rfl rfl (Nat.le_of_ble_eq_true rfl) ?_
  refine b_aload 0 71 dX7_init_70 rfl rfl ?_
  refine b_iconst (4 : Int32) 72 dX7_init_71 kiconst_4 rfl ?_
  refine b_newS 4 75 dX7_init_72 rfl bw_sh (by decide) (by decide) (Nat.le_of_ble_eq_true rfl) (Nat.le_of_ble_eq_true rfl) (Nat.le_of_ble_eq_true rfl) (fun q1 => ?_)
  refine b_putF (ty := (.array (.object "KnottedWinds$Sheet"))) (((((((([(a, .inr (7, [.ref (bt2 u1), .ref (bt2 u2), .int 0, .ref (bt1 u3), .ref (bt0 u4), .ref (bt3 u5), .ref (bt5 u6), .ref q1, .null]))] ++ bo2 J u1) ++ bo2 J u2) ++ bo1 J u3) ++ bo0 J u4) ++ bo3 J u5) ++ bo5 J u6) ++ [(q1, bSh J (fun _ => none))])) 78 dX7_init_75 rfl fl_X7_49 kfi_7_7 rfl rfl rfl rfl rfl (Nat.le_of_ble_eq_true rfl) ?_
  refine b_aload 0 79 dX7_init_78 rfl rfl ?_
  refine b_bipush (7 : Int32) 81 dX7_init_79 kbipush_7 rfl ?_
  refine b_newI 7 83 dX7_init_81 rfl bw_arr (by decide) (by decide) (Nat.le_of_ble_eq_true rfl) (Nat.le_of_ble_eq_true rfl) (Nat.le_of_ble_eq_true rfl) (fun q2 => ?_)
  refine b_putF (ty := (.array .int)) (((((((([(a, .inr (7, [.ref (bt2 u1), .ref (bt2 u2), .int 0, .ref (bt1 u3), .ref (bt0 u4), .ref (bt3 u5), .ref (bt5 u6), .ref q1, .ref q2]))] ++ bo2 J u1) ++ bo2 J u2) ++ bo1 J u3) ++ bo0 J u4) ++ bo3 J u5) ++ bo5 J u6) ++ [(q1, bSh J (fun _ => none)), (q2, bA J 7)])) 86 dX7_init_83 rfl fl_X7_53 kfi_7_8 rfl rfl rfl rfl rfl (Nat.le_of_ble_eq_true rfl) ?_
  refine b_iconst (0 : Int32) 87 dX7_init_86 kiconst_0 rfl ?_
  refine b_istore [(1, .int 0), (0, .ref a)] 88 dX7_init_87 rfl (Nat.le_of_ble_eq_true rfl) rfl ?_
  refine b_iload 0 89 dX7_init_88 rfl rfl ?_
  refine b_iconst (4 : Int32) 90 dX7_init_89 kiconst_4 rfl ?_
  refine b_ge 112 93 dX7_init_90 rfl rfl ⟨fun h => absurd h (by decide), fun _ => ?_⟩
  refine b_aload 1 94 dX7_init_93 rfl rfl ?_
  refine b_get (v := .ref q1) 97 dX7_init_94 rfl fl_X7_49 rfl rfl ?_
  refine b_iload 0 98 dX7_init_97 rfl rfl ?_
  refine b_new [.null, .int 0, .int 0] 101 dX7_init_98 rfl (ci := 4) (C := RX4) (T := TX4) (N := 3) (ts := tyX4) rfl tw_in4 tyX4_ok bw_new_X7_47 bdf_4 (Nat.le_of_ble_eq_true rfl) (Nat.le_of_ble_eq_true rfl) (fun z7 => ?_)
  refine b_dup 102 dX7_init_101 rfl ?_
  refine b_make 105 dX7_init_102 rfl (mk_4 J) rfl bw_mk_X7_57 ⟨(Nat.le_of_ble_eq_true rfl), (Nat.le_of_ble_eq_true rfl)⟩ ⟨(Nat.le_of_ble_eq_true rfl), (Nat.le_of_ble_eq_true rfl)⟩ (Nat.le_of_ble_eq_true rfl) (fun u7 hu7 => ?_)
  subst hu7
  refine b_aast (vs := [.ref (u7 1), .int 0, .int 0]) 0 78 80 ((((((((([(a, .inr (7, [.ref (bt2 u1), .ref (bt2 u2), .int 0, .ref (bt1 u3), .ref (bt0 u4), .ref (bt3 u5), .ref (bt5 u6), .ref q1, .ref q2]))] ++ bo2 J u1) ++ bo2 J u2) ++ bo1 J u3) ++ bo0 J u4) ++ bo3 J u5) ++ bo5 J u6) ++ [(q1, bSh J (va_up (fun _ => none) 0 (some (bt4 u7)))), (q2, bA J 7)]) ++ bo4 J u7)) 106 dX7_init_105 rfl rfl rfl bin_0 (by decide) rfl ?_
  refine b_iinc (j := 0) (v := (1 : Int32)) [(1, .int 1), (0, .ref a)] 109 dX7_init_106 rfl rfl (by decide) (Nat.le_of_ble_eq_true rfl) rfl ?_
  refine b_goto 88 dX7_init_109 rfl ?_
  refine b_iload 0 89 dX7_init_88 rfl rfl ?_
  refine b_iconst (4 : Int32) 90 dX7_init_89 kiconst_4 rfl ?_
  refine b_ge 112 93 dX7_init_90 rfl rfl ⟨fun h => absurd h (by decide), fun _ => ?_⟩
  refine b_aload 1 94 dX7_init_93 rfl rfl ?_
  refine b_get (v := .ref q1) 97 dX7_init_94 rfl fl_X7_49 rfl rfl ?_
  refine b_iload 0 98 dX7_init_97 rfl rfl ?_
  refine b_new [.null, .int 0, .int 0] 101 dX7_init_98 rfl (ci := 4) (C := RX4) (T := TX4) (N := 3) (ts := tyX4) rfl tw_in4 tyX4_ok bw_new_X7_47 bdf_4 (Nat.le_of_ble_eq_true rfl) (Nat.le_of_ble_eq_true rfl) (fun z8 => ?_)
  refine b_dup 102 dX7_init_101 rfl ?_
  refine b_make 105 dX7_init_102 rfl (mk_4 J) rfl bw_mk_X7_57 ⟨(Nat.le_of_ble_eq_true rfl), (Nat.le_of_ble_eq_true rfl)⟩ ⟨(Nat.le_of_ble_eq_true rfl), (Nat.le_of_ble_eq_true rfl)⟩ (Nat.le_of_ble_eq_true rfl) (fun u8 hu8 => ?_)
  subst hu8
  refine b_aast (vs := [.ref (u8 1), .int 0, .int 0]) 1 78 82 (((((((((([(a, .inr (7, [.ref (bt2 u1), .ref (bt2 u2), .int 0, .ref (bt1 u3), .ref (bt0 u4), .ref (bt3 u5), .ref (bt5 u6), .ref q1, .ref q2]))] ++ bo2 J u1) ++ bo2 J u2) ++ bo1 J u3) ++ bo0 J u4) ++ bo3 J u5) ++ bo5 J u6) ++ [(q1, bSh J (va_up (va_up (fun _ => none) 0 (some (bt4 u7))) 1 (some (bt4 u8)))), (q2, bA J 7)]) ++ bo4 J u7) ++ bo4 J u8)) 106 dX7_init_105 rfl rfl rfl bin_1 (by decide) rfl ?_
  refine b_iinc (j := 0) (v := (2 : Int32)) [(1, .int 2), (0, .ref a)] 109 dX7_init_106 rfl rfl (by decide) (Nat.le_of_ble_eq_true rfl) rfl ?_
  refine b_goto 88 dX7_init_109 rfl ?_
  refine b_iload 0 89 dX7_init_88 rfl rfl ?_
  refine b_iconst (4 : Int32) 90 dX7_init_89 kiconst_4 rfl ?_
  refine b_ge 112 93 dX7_init_90 rfl rfl ⟨fun h => absurd h (by decide), fun _ => ?_⟩
  refine b_aload 1 94 dX7_init_93 rfl rfl ?_
  refine b_get (v := .ref q1) 97 dX7_init_94 rfl fl_X7_49 rfl rfl ?_
  refine b_iload 0 98 dX7_init_97 rfl rfl ?_
  refine b_new [.null, .int 0, .int 0] 101 dX7_init_98 rfl (ci := 4) (C := RX4) (T := TX4) (N := 3) (ts := tyX4) rfl tw_in4 tyX4_ok bw_new_X7_47 bdf_4 (Nat.le_of_ble_eq_true rfl) (Nat.le_of_ble_eq_true rfl) (fun z9 => ?_)
  refine b_dup 102 dX7_init_101 rfl ?_
  refine b_make 105 dX7_init_102 rfl (mk_4 J) rfl bw_mk_X7_57 ⟨(Nat.le_of_ble_eq_true rfl), (Nat.le_of_ble_eq_true rfl)⟩ ⟨(Nat.le_of_ble_eq_true rfl), (Nat.le_of_ble_eq_true rfl)⟩ (Nat.le_of_ble_eq_true rfl) (fun u9 hu9 => ?_)
  subst hu9
  refine b_aast (vs := [.ref (u9 1), .int 0, .int 0]) 2 78 84 ((((((((((([(a, .inr (7, [.ref (bt2 u1), .ref (bt2 u2), .int 0, .ref (bt1 u3), .ref (bt0 u4), .ref (bt3 u5), .ref (bt5 u6), .ref q1, .ref q2]))] ++ bo2 J u1) ++ bo2 J u2) ++ bo1 J u3) ++ bo0 J u4) ++ bo3 J u5) ++ bo5 J u6) ++ [(q1, bSh J (va_up (va_up (va_up (fun _ => none) 0 (some (bt4 u7))) 1 (some (bt4 u8))) 2 (some (bt4 u9)))), (q2, bA J 7)]) ++ bo4 J u7) ++ bo4 J u8) ++ bo4 J u9)) 106 dX7_init_105 rfl rfl rfl bin_2 (by decide) rfl ?_
  refine b_iinc (j := 0) (v := (3 : Int32)) [(1, .int 3), (0, .ref a)] 109 dX7_init_106 rfl rfl (by decide) (Nat.le_of_ble_eq_true rfl) rfl ?_
  refine b_goto 88 dX7_init_109 rfl ?_
  refine b_iload 0 89 dX7_init_88 rfl rfl ?_
  refine b_iconst (4 : Int32) 90 dX7_init_89 kiconst_4 rfl ?_
  refine b_ge 112 93 dX7_init_90 rfl rfl ⟨fun h => absurd h (by decide), fun _ => ?_⟩
  refine b_aload 1 94 dX7_init_93 rfl rfl ?_
  refine b_get (v := .ref q1) 97 dX7_init_94 rfl fl_X7_49 rfl rfl ?_
  refine b_iload 0 98 dX7_init_97 rfl rfl ?_
  refine b_new [.null, .int 0, .int 0] 101 dX7_init_98 rfl (ci := 4) (C := RX4) (T := TX4) (N := 3) (ts := tyX4) rfl tw_in4 tyX4_ok bw_new_X7_47 bdf_4 (Nat.le_of_ble_eq_true rfl) (Nat.le_of_ble_eq_true rfl) (fun z10 => ?_)
  refine b_dup 102 dX7_init_101 rfl ?_
  refine b_make 105 dX7_init_102 rfl (mk_4 J) rfl bw_mk_X7_57 ⟨(Nat.le_of_ble_eq_true rfl), (Nat.le_of_ble_eq_true rfl)⟩ ⟨(Nat.le_of_ble_eq_true rfl), (Nat.le_of_ble_eq_true rfl)⟩ (Nat.le_of_ble_eq_true rfl) (fun u10 hu10 => ?_)
  subst hu10
  refine b_aast (vs := [.ref (u10 1), .int 0, .int 0]) 3 78 86 (((((((((((([(a, .inr (7, [.ref (bt2 u1), .ref (bt2 u2), .int 0, .ref (bt1 u3), .ref (bt0 u4), .ref (bt3 u5), .ref (bt5 u6), .ref q1, .ref q2]))] ++ bo2 J u1) ++ bo2 J u2) ++ bo1 J u3) ++ bo0 J u4) ++ bo3 J u5) ++ bo5 J u6) ++ [(q1, bSh J (va_up (va_up (va_up (va_up (fun _ => none) 0 (some (bt4 u7))) 1 (some (bt4 u8))) 2 (some (bt4 u9))) 3 (some (bt4 u10)))), (q2, bA J 7)]) ++ bo4 J u7) ++ bo4 J u8) ++ bo4 J u9) ++ bo4 J u10)) 106 dX7_init_105 rfl rfl rfl bin_3 (by decide) rfl ?_
  refine b_iinc (j := 0) (v := (4 : Int32)) [(1, .int 4), (0, .ref a)] 109 dX7_init_106 rfl rfl (by decide) (Nat.le_of_ble_eq_true rfl) rfl ?_
  refine b_goto 88 dX7_init_109 rfl ?_
  refine b_iload 0 89 dX7_init_88 rfl rfl ?_
  refine b_iconst (4 : Int32) 90 dX7_init_89 kiconst_4 rfl ?_
  refine b_ge 112 93 dX7_init_90 rfl rfl ⟨fun _ => ?_, fun h => absurd (by decide) h⟩
  exact b_ret ((fun i => [a, q1, q2].getD i 0), u1, u2, u3, u4, u5, u6, u7, u8, u9, u10) dX7_init_112 rfl rfl rfl (Nat.le_of_ble_eq_true rfl) (Nat.le_of_ble_eq_true rfl)
theorem bw_obj_8 : Cond.methodLink RX8 1 objectInit ∈ TW ∧ Cond.instanceMethod objectInit ∈ TW ∧ Cond.code objectInit ⟨#[0xb1]⟩ 1 none ∈ TW := ⟨tw_mem (List.mem_of_getElem? (i := 948) (by decide +kernel)) rfl, bw_oi, bw_oc⟩
theorem kfi_8_0 : kFf 8 0 RX8 := fun q h => by cases h; exact ⟨rfl, rfl⟩
theorem kfi_8_1 : kFf 8 1 RX8 := fun q h => by cases h; exact ⟨rfl, rfl⟩
theorem kfi_8_2 : kFf 8 2 RX8 := fun q h => by cases h; exact ⟨rfl, rfl⟩
theorem kfi_8_3 : kFf 8 3 RX8 := fun q h => by cases h; exact ⟨rfl, rfl⟩
theorem kfi_8_5 : kFf 8 5 RX8 := fun q h => by cases h; exact ⟨rfl, rfl⟩
theorem kfi_8_10 : kFf 8 10 RX8 := fun q h => by cases h; exact ⟨rfl, rfl⟩
theorem kfi_8_11 : kFf 8 11 RX8 := fun q h => by cases h; exact ⟨rfl, rfl⟩
theorem kfi_8_12 : kFf 8 12 RX8 := fun q h => by cases h; exact ⟨rfl, rfl⟩
theorem kfi_8_16 : kFf 8 16 RX8 := fun q h => by cases h; exact ⟨rfl, rfl⟩
theorem kfi_8_20 : kFf 8 20 RX8 := fun q h => by cases h; exact ⟨rfl, rfl⟩
theorem kfi_8_21 : kFf 8 21 RX8 := fun q h => by cases h; exact ⟨rfl, rfl⟩
theorem kfi_8_22 : kFf 8 22 RX8 := fun q h => by cases h; exact ⟨rfl, rfl⟩
theorem kfi_8_23 : kFf 8 23 RX8 := fun q h => by cases h; exact ⟨rfl, rfl⟩
theorem bin_x : vp_in (6 : Int32) 481 := by unfold vp_in; decide
abbrev bS8 : Type := (Nat → Nat)
abbrev bt8 (u : bS8) : Nat := (u 0)
def bo8 (J : bJ) (u : bS8) : va_W := [((u 0), .inr (8, [.ref (u 1), .ref (u 2), .ref (u 3), .ref (u 4), .int 0, .ref (u 5), .int 0, .int 0, .int 0, .int 0, .ref (u 6), .ref (u 7), .ref (u 8), .int 0, .int 0, .int 0, .ref (u 9), .int 0, .int 0, .int 0, .ref (u 10), .ref (u 11), .ref (u 12), .ref (u 13)])), ((u 1), .inl (J.2.2.1, 481, .inl (upd (fun _ => 0) 6 1))), ((u 2), bA J 481), ((u 3), bA J 481), ((u 4), bA J 294), ((u 5), bA J 7), ((u 6), bA J 124), ((u 7), bA J 128), ((u 8), bA J 64), ((u 9), bA J 30), ((u 10), bA J 4), ((u 11), bA J 4), ((u 12), bA J 96), ((u 13), bA J 24)]
set_option maxRecDepth 20000 in
theorem mk_8 (J : bJ) : Mk J 1 13 2218 m_X8_init (.inr (8, [.null, .null, .null, .null, .int 0, .null, .int 0, .int 0, .int 0, .int 0, .null, .null, .null, .int 0, .int 0, .int 0, .null, .int 0, .int 0, .int 0, .null, .null, .null, .null])) bt8 (bo8 J) := by
  refine Mk.of (by decide +kernel) (Nat.le_of_ble_eq_true rfl) rfl (fun a => ?_)
  refine b_aload 0 1 dX8_init_0 rfl rfl ?_
  refine b_obj 4 dX8_init_1 rfl bw_obj_8 ⟨(Nat.le_of_ble_eq_true rfl), (Nat.le_of_ble_eq_true rfl)⟩ ?_
  refine b_aload 0 5 dX8_init_4 rfl rfl ?_
  refine b_sipush (481 : Int32) 8 dX8_init_5 ksipush_481 rfl ?_
  refine b_newI 481 10 dX8_init_8 rfl bw_arr (by decide) (by decide) (Nat.le_of_ble_eq_true rfl) (Nat.le_of_ble_eq_true rfl) (Nat.le_of_ble_eq_true rfl) (fun q1 => ?_)
  refine b_putF (ty := (.array .int)) ([(a, .inr (8, [.ref q1, .null, .null, .null, .int 0, .null, .int 0, .int 0, .int 0, .int 0, .null, .null, .null, .int 0, .int 0, .int 0, .null, .int 0, .int 0, .int 0, .null, .null, .null, .null])), (q1, bA J 481)]) 13 dX8_init_10 rfl fl_X8_7 kfi_8_0 rfl rfl rfl rfl rfl (Nat.le_of_ble_eq_true rfl) ?_
  refine b_aload 0 14 dX8_init_13 rfl rfl ?_
  refine b_sipush (481 : Int32) 17 dX8_init_14 ksipush_481 rfl ?_
  refine b_newI 481 19 dX8_init_17 rfl bw_arr (by decide) (by decide) (Nat.le_of_ble_eq_true rfl) (Nat.le_of_ble_eq_true rfl) (Nat.le_of_ble_eq_true rfl) (fun q2 => ?_)
  refine b_putF (ty := (.array .int)) ([(a, .inr (8, [.ref q1, .ref q2, .null, .null, .int 0, .null, .int 0, .int 0, .int 0, .int 0, .null, .null, .null, .int 0, .int 0, .int 0, .null, .int 0, .int 0, .int 0, .null, .null, .null, .null])), (q1, bA J 481), (q2, bA J 481)]) 22 dX8_init_19 rfl fl_X8_13 kfi_8_1 rfl rfl rfl rfl rfl (Nat.le_of_ble_eq_true rfl) ?_
  refine b_aload 0 23 dX8_init_22 rfl rfl ?_
  refine b_sipush (481 : Int32) 26 dX8_init_23 ksipush_481 rfl ?_
  refine b_newI 481 28 dX8_init_26 rfl bw_arr (by decide) (by decide) (Nat.le_of_ble_eq_true rfl) (Nat.le_of_ble_eq_true rfl) (Nat.le_of_ble_eq_true rfl) (fun q3 => ?_)
  refine b_putF (ty := (.array .int)) ([(a, .inr (8, [.ref q1, .ref q2, .ref q3, .null, .int 0, .null, .int 0, .int 0, .int 0, .int 0, .null, .null, .null, .int 0, .int 0, .int 0, .null, .int 0, .int 0, .int 0, .null, .null, .null, .null])), (q1, bA J 481), (q2, bA J 481), (q3, bA J 481)]) 31 dX8_init_28 rfl fl_X8_16 kfi_8_2 rfl rfl rfl rfl rfl (Nat.le_of_ble_eq_true rfl) ?_
  refine b_aload 0 32 dX8_init_31 rfl rfl ?_
  refine b_sipush (294 : Int32) 35 dX8_init_32 ksipush_294 rfl ?_
  refine b_newI 294 37 dX8_init_35 rfl bw_arr (by decide) (by decide) (Nat.le_of_ble_eq_true rfl) (Nat.le_of_ble_eq_true rfl) (Nat.le_of_ble_eq_true rfl) (fun q4 => ?_)
  refine b_putF (ty := (.array .int)) ([(a, .inr (8, [.ref q1, .ref q2, .ref q3, .ref q4, .int 0, .null, .int 0, .int 0, .int 0, .int 0, .null, .null, .null, .int 0, .int 0, .int 0, .null, .int 0, .int 0, .int 0, .null, .null, .null, .null])), (q1, bA J 481), (q2, bA J 481), (q3, bA J 481), (q4, bA J 294)]) 40 dX8_init_37 rfl fl_X8_19 kfi_8_3 rfl rfl rfl rfl rfl (Nat.le_of_ble_eq_true rfl) ?_
  refine b_aload 0 41 dX8_init_40 rfl rfl ?_
  refine b_bipush (7 : Int32) 43 dX8_init_41 kbipush_7 rfl ?_
  refine b_newI 7 45 dX8_init_43 rfl bw_arr (by decide) (by decide) (Nat.le_of_ble_eq_true rfl) (Nat.le_of_ble_eq_true rfl) (Nat.le_of_ble_eq_true rfl) (fun q5 => ?_)
  refine b_putF (ty := (.array .int)) ([(a, .inr (8, [.ref q1, .ref q2, .ref q3, .ref q4, .int 0, .ref q5, .int 0, .int 0, .int 0, .int 0, .null, .null, .null, .int 0, .int 0, .int 0, .null, .int 0, .int 0, .int 0, .null, .null, .null, .null])), (q1, bA J 481), (q2, bA J 481), (q3, bA J 481), (q4, bA J 294), (q5, bA J 7)]) 48 dX8_init_45 rfl fl_X8_22 kfi_8_5 rfl rfl rfl rfl rfl (Nat.le_of_ble_eq_true rfl) ?_
  refine b_aload 0 49 dX8_init_48 rfl rfl ?_
  refine b_bipush (124 : Int32) 51 dX8_init_49 kbipush_124 rfl ?_
  refine b_newI 124 53 dX8_init_51 rfl bw_arr (by decide) (by decide) (Nat.le_of_ble_eq_true rfl) (Nat.le_of_ble_eq_true rfl) (Nat.le_of_ble_eq_true rfl) (fun q6 => ?_)
  refine b_putF (ty := (.array .int)) ([(a, .inr (8, [.ref q1, .ref q2, .ref q3, .ref q4, .int 0, .ref q5, .int 0, .int 0, .int 0, .int 0, .ref q6, .null, .null, .int 0, .int 0, .int 0, .null, .int 0, .int 0, .int 0, .null, .null, .null, .null])), (q1, bA J 481), (q2, bA J 481), (q3, bA J 481), (q4, bA J 294), (q5, bA J 7), (q6, bA J 124)]) 56 dX8_init_53 rfl fl_X8_25 kfi_8_10 rfl rfl rfl rfl rfl (Nat.le_of_ble_eq_true rfl) ?_
  refine b_aload 0 57 dX8_init_56 rfl rfl ?_
  refine b_sipush (128 : Int32) 60 dX8_init_57 ksipush_128 rfl ?_
  refine b_newI 128 62 dX8_init_60 rfl bw_arr (by decide) (by decide) (Nat.le_of_ble_eq_true rfl) (Nat.le_of_ble_eq_true rfl) (Nat.le_of_ble_eq_true rfl) (fun q7 => ?_)
  refine b_putF (ty := (.array .int)) ([(a, .inr (8, [.ref q1, .ref q2, .ref q3, .ref q4, .int 0, .ref q5, .int 0, .int 0, .int 0, .int 0, .ref q6, .ref q7, .null, .int 0, .int 0, .int 0, .null, .int 0, .int 0, .int 0, .null, .null, .null, .null])), (q1, bA J 481), (q2, bA J 481), (q3, bA J 481), (q4, bA J 294), (q5, bA J 7), (q6, bA J 124), (q7, bA J 128)]) 65 dX8_init_62 rfl fl_X8_28 kfi_8_11 rfl rfl rfl rfl rfl (Nat.le_of_ble_eq_true rfl) ?_
  refine b_aload 0 66 dX8_init_65 rfl rfl ?_
  refine b_bipush (64 : Int32) 68 dX8_init_66 kbipush_64 rfl ?_
  refine b_newI 64 70 dX8_init_68 rfl bw_arr (by decide) (by decide) (Nat.le_of_ble_eq_true rfl) (Nat.le_of_ble_eq_true rfl) (Nat.le_of_ble_eq_true rfl) (fun q8 => ?_)
  refine b_putF (ty := (.array .int)) ([(a, .inr (8, [.ref q1, .ref q2, .ref q3, .ref q4, .int 0, .ref q5, .int 0, .int 0, .int 0, .int 0, .ref q6, .ref q7, .ref q8, .int 0, .int 0, .int 0, .null, .int 0, .int 0, .int 0, .null, .null, .null, .null])), (q1, bA J 481), (q2, bA J 481), (q3, bA J 481), (q4, bA J 294), (q5, bA J 7), (q6, bA J 124), (q7, bA J 128), (q8, bA J 64)]) 73 dX8_init_70 rfl fl_X8_31 kfi_8_12 rfl rfl rfl rfl rfl (Nat.le_of_ble_eq_true rfl) ?_
  refine b_aload 0 74 dX8_init_73 rfl rfl ?_
  refine b_bipush (30 : Int32) 76 dX8_init_74 kbipush_30 rfl ?_
  refine b_newI 30 78 dX8_init_76 rfl bw_arr (by decide) (by decide) (Nat.le_of_ble_eq_true rfl) (Nat.le_of_ble_eq_true rfl) (Nat.le_of_ble_eq_true rfl) (fun q9 => ?_)
  refine b_putF (ty := (.array .int)) ([(a, .inr (8, [.ref q1, .ref q2, .ref q3, .ref q4, .int 0, .ref q5, .int 0, .int 0, .int 0, .int 0, .ref q6, .ref q7, .ref q8, .int 0, .int 0, .int 0, .ref q9, .int 0, .int 0, .int 0, .null, .null, .null, .null])), (q1, bA J 481), (q2, bA J 481), (q3, bA J 481), (q4, bA J 294), (q5, bA J 7), (q6, bA J 124), (q7, bA J 128), (q8, bA J 64), (q9, bA J 30)]) 81 dX8_init_78 rfl fl_X8_34 kfi_8_16 rfl rfl rfl rfl rfl (Nat.le_of_ble_eq_true rfl) ?_
  refine b_aload 0 82 dX8_init_81 rfl rfl ?_
  refine b_iconst (4 : Int32) 83 dX8_init_82 kiconst_4 rfl ?_
  refine b_newI 4 85 dX8_init_83 rfl bw_arr (by decide) (by decide) (Nat.le_of_ble_eq_true rfl) (Nat.le_of_ble_eq_true rfl) (Nat.le_of_ble_eq_true rfl) (fun q10 => ?_)
  refine b_putF (ty := (.array .int)) ([(a, .inr (8, [.ref q1, .ref q2, .ref q3, .ref q4, .int 0, .ref q5, .int 0, .int 0, .int 0, .int 0, .ref q6, .ref q7, .ref q8, .int 0, .int 0, .int 0, .ref q9, .int 0, .int 0, .int 0, .ref q10, .null, .null, .null])), (q1, bA J 481), (q2, bA J 481), (q3, bA J 481), (q4, bA J 294), (q5, bA J 7), (q6, bA J 124), (q7, bA J 128), (q8, bA J 64), (q9, bA J 30), (q10, bA J 4)]) 88 dX8_init_85 rfl fl_X8_37 kfi_8_20 rfl rfl rfl rfl rfl (Nat.le_of_ble_eq_true rfl) ?_
  refine b_aload 0 89 dX8_init_88 rfl rfl ?_
  refine b_iconst (4 : Int32) 90 dX8_init_89 kiconst_4 rfl ?_
  refine b_newI 4 92 dX8_init_90 rfl bw_arr (by decide) (by decide) (Nat.le_of_ble_eq_true rfl) (Nat.le_of_ble_eq_true rfl) (Nat.le_of_ble_eq_true rfl) (fun q11 => ?_)
  refine b_putF (ty := (.array .int)) ([(a, .inr (8, [.ref q1, .ref q2, .ref q3, .ref q4, .int 0, .ref q5, .int 0, .int 0, .int 0, .int 0, .ref q6, .ref q7, .ref q8, .int 0, .int 0, .int 0, .ref q9, .int 0, .int 0, .int 0, .ref q10, .ref q11, .null, .null])), (q1, bA J 481), (q2, bA J 481), (q3, bA J 481), (q4, bA J 294), (q5, bA J 7), (q6, bA J 124), (q7, bA J 128), (q8, bA J 64), (q9, bA J 30), (q10, bA J 4), (q11, bA J 4)]) 95 dX8_init_92 rfl fl_X8_40 kfi_8_21 rfl rfl rfl rfl rfl (Nat.le_of_ble_eq_true rfl) ?_
  refine b_aload 0 96 dX8_init_95 rfl rfl ?_
  refine b_bipush (96 : Int32) 98 dX8_init_96 kbipush_96 rfl ?_
  refine b_newI 96 100 dX8_init_98 rfl bw_arr (by decide) (by decide) (Nat.le_of_ble_eq_true rfl) (Nat.le_of_ble_eq_true rfl) (Nat.le_of_ble_eq_true rfl) (fun q12 => ?_)
  refine b_putF (ty := (.array .int)) ([(a, .inr (8, [.ref q1, .ref q2, .ref q3, .ref q4, .int 0, .ref q5, .int 0, .int 0, .int 0, .int 0, .ref q6, .ref q7, .ref q8, .int 0, .int 0, .int 0, .ref q9, .int 0, .int 0, .int 0, .ref q10, .ref q11, .ref q12, .null])), (q1, bA J 481), (q2, bA J 481), (q3, bA J 481), (q4, bA J 294), (q5, bA J 7), (q6, bA J 124), (q7, bA J 128), (q8, bA J 64), (q9, bA J 30), (q10, bA J 4), (q11, bA J 4), (q12, bA J 96)]) 103 dX8_init_100 rfl fl_X8_43 kfi_8_22 rfl rfl rfl rfl rfl (Nat.le_of_ble_eq_true rfl) ?_
  refine b_aload 0 104 dX8_init_103 rfl rfl ?_
  refine b_bipush (24 : Int32) 106 dX8_init_104 kbipush_24 rfl ?_
  refine b_newI 24 108 dX8_init_106 rfl bw_arr (by decide) (by decide) (Nat.le_of_ble_eq_true rfl) (Nat.le_of_ble_eq_true rfl) (Nat.le_of_ble_eq_true rfl) (fun q13 => ?_)
  refine b_putF (ty := (.array .int)) ([(a, .inr (8, [.ref q1, .ref q2, .ref q3, .ref q4, .int 0, .ref q5, .int 0, .int 0, .int 0, .int 0, .ref q6, .ref q7, .ref q8, .int 0, .int 0, .int 0, .ref q9, .int 0, .int 0, .int 0, .ref q10, .ref q11, .ref q12, .ref q13])), (q1, bA J 481), (q2, bA J 481), (q3, bA J 481), (q4, bA J 294), (q5, bA J 7), (q6, bA J 124), (q7, bA J 128), (q8, bA J 64), (q9, bA J 30), (q10, bA J 4), (q11, bA J 4), (q12, bA J 96), (q13, bA J 24)]) 111 dX8_init_108 rfl fl_X8_46 kfi_8_23 rfl rfl rfl rfl rfl (Nat.le_of_ble_eq_true rfl) ?_
  refine b_aload 0 112 dX8_init_111 rfl rfl ?_
  refine b_get (v := .ref q1) 115 dX8_init_112 rfl fl_X8_7 rfl rfl ?_
  refine b_bipush (6 : Int32) 117 dX8_init_115 kbipush_6 rfl ?_
  refine b_iconst (1 : Int32) 118 dX8_init_117 kiconst_1 rfl ?_
  refine b_iast 1 ([(a, .inr (8, [.ref q1, .ref q2, .ref q3, .ref q4, .int 0, .ref q5, .int 0, .int 0, .int 0, .int 0, .ref q6, .ref q7, .ref q8, .int 0, .int 0, .int 0, .ref q9, .int 0, .int 0, .int 0, .ref q10, .ref q11, .ref q12, .ref q13])), (q1, .inl (J.2.2.1, 481, .inl (upd (fun _ => 0) 6 1))), (q2, bA J 481), (q3, bA J 481), (q4, bA J 294), (q5, bA J 7), (q6, bA J 124), (q7, bA J 128), (q8, bA J 64), (q9, bA J 30), (q10, bA J 4), (q11, bA J 4), (q12, bA J 96), (q13, bA J 24)]) 119 dX8_init_118 rfl rfl bin_x rfl ?_
  exact b_ret (fun i => [a, q1, q2, q3, q4, q5, q6, q7, q8, q9, q10, q11, q12, q13].getD i 0) dX8_init_119 rfl rfl rfl (Nat.le_of_ble_eq_true rfl) (Nat.le_of_ble_eq_true rfl)

