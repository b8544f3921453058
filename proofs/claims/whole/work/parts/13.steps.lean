/-! API calls, one by one: the sea, its ships and knots -/
section StepsA
variable {G : kG} {d : Nat} {Q : Int32 → kM → Prop} {h : kM}
theorem sg_X7_land_0 {G : kG} {d : Nat} {Q : Int32 → kM → Prop}  {a1 : Int32} {a2 : Int32} {h : kM} (hd : 4 ≤ d)  (H :
    (((kb (0 ≤ a1 ∧ a1 < (64 : Int32))) = 0 →
      (vp_in (1 : Int32) 7) ∧
      ∀ h3 : kM, h3 = kErr h 87 (1 : Int32) →
      Q (-1000000000 - (1 : Int32)) h3
    ) ∧ (¬ ((kb (0 ≤ a1 ∧ a1 < (64 : Int32))) = 0) →
      ((¬ (kb (0 ≤ a2 ∧ a2 < (2 : Int32))) = 0 →
        (vp_in a1 64) ∧
        (vp_in a1 64) ∧
        ∀ h7 : kM, h7 = kU h 2 (a1).toNatClampNeg a2 →
        Q (h 2 (a1).toNatClampNeg) h7
      ) ∧ ((kb (0 ≤ a2 ∧ a2 < (2 : Int32))) = 0 →
        (vp_in (1 : Int32) 7) ∧
        ∀ h9 : kM, h9 = kErr h 87 (1 : Int32) →
        Q (-1000000000 - (1 : Int32)) h9
      ))
    ))) : Wp G d m_X7_land (kEo G d m_X7_land Q) 0 [.ref 0, .int a1, .int a2, .null] [] h := by
  refine wp_iload_n 1 dX7_land_0 rfl rfl ?_
  refine wp_bipush (64 : Int32) 3 dX7_land_1 kbipush_64 rfl ?_
  refine wp_cS (d - 1) 2 [.int a1, .int (64 : Int32)] [] 6 dX7_land_3 rfl (lk_X7_58 rfl) (by omega) rfl rfl (Nat.le_of_ble_eq_true rfl) (sp_X7_within (by omega)  ?_)
  refine wp_if_eq 17 9 dX7_land_6 rfl rfl ⟨fun c1 => ?_, fun c1 => ?_⟩
  · replace H := H.1 c1
    refine wp_aload_n 18 dX7_land_17 rfl rfl ?_
    refine wp_iconst (1 : Int32) 19 dX7_land_18 kiconst_1 rfl ?_
    have c2 := H.1; replace H := H.2
    refine wp_cV (d - 1) 1 [.int (1 : Int32)] [] 22 dX7_land_19 rfl (lk_X7_62 rfl) (by omega) kd_0 rfl rfl rfl (Nat.le_of_ble_eq_true rfl) (sp_X7_error (by omega) c2 (fun h3 eh3 => ?_))
    replace H := H h3 eh3
    exact wp_reti dX7_land_22 rfl H
  · replace H := H.2 c1
    refine wp_iload_n 10 dX7_land_9 rfl rfl ?_
    refine wp_iconst (2 : Int32) 11 dX7_land_10 kiconst_2 rfl ?_
    refine wp_cS (d - 1) 2 [.int a2, .int (2 : Int32)] [] 14 dX7_land_11 rfl (lk_X7_58 rfl) (by omega) rfl rfl (Nat.le_of_ble_eq_true rfl) (sp_X7_within (by omega)  ?_)
    refine wp_if_ne 23 17 dX7_land_14 rfl rfl ⟨fun c4 => ?_, fun c4 => ?_⟩
    · replace H := H.1 c4
      refine wp_aload_n 24 dX7_land_23 rfl rfl ?_
      refine wp_getR 1 1 27 dX7_land_24 rfl fl_X7_12 kd_0 rfl rfl rfl rfl ?_
      refine wp_getR 1 2 30 dX7_land_27 rfl fl_X7_66 kd_1 rfl rfl rfl rfl ?_
      refine wp_iload_n 31 dX7_land_30 rfl rfl ?_
      have c5 := H.1; replace H := H.2
      refine wp_iald 32 dX7_land_31 rfl kd_2 c5 ?_
      refine wp_istore_n 33 dX7_land_32 rfl (Nat.le_of_ble_eq_true rfl) rfl ?_
      refine wp_aload_n 34 dX7_land_33 rfl rfl ?_
      refine wp_getR 1 1 37 dX7_land_34 rfl fl_X7_12 kd_0 rfl rfl rfl rfl ?_
      refine wp_getR 1 2 40 dX7_land_37 rfl fl_X7_66 kd_1 rfl rfl rfl rfl ?_
      refine wp_iload_n 41 dX7_land_40 rfl rfl ?_
      refine wp_iload_n 42 dX7_land_41 rfl rfl ?_
      have c6 := H.1; replace H := H.2
      refine wp_iast 43 dX7_land_42 rfl kd_2 c6 ?_
      refine wp_nm (fun h7 eh7 => ?_)
      replace H := H h7 eh7
      refine wp_iload_n 44 dX7_land_43 rfl rfl ?_
      exact wp_reti dX7_land_44 rfl H
    · replace H := H.2 c4
      refine wp_aload_n 18 dX7_land_17 rfl rfl ?_
      refine wp_iconst (1 : Int32) 19 dX7_land_18 kiconst_1 rfl ?_
      have c8 := H.1; replace H := H.2
      refine wp_cV (d - 1) 1 [.int (1 : Int32)] [] 22 dX7_land_19 rfl (lk_X7_62 rfl) (by omega) kd_0 rfl rfl rfl (Nat.le_of_ble_eq_true rfl) (sp_X7_error (by omega) c8 (fun h9 eh9 => ?_))
      replace H := H h9 eh9
      exact wp_reti dX7_land_22 rfl H

theorem cg_X7_land {G : kG} {d : Nat} {Q : Int32 → kM → Prop}  {a1 : Int32} {a2 : Int32} {h : kM} (hd : 4 ≤ d)  (H :
    (((kb (0 ≤ a1 ∧ a1 < (64 : Int32))) = 0 →
      (vp_in (1 : Int32) 7) ∧
      ∀ h3 : kM, h3 = kErr h 87 (1 : Int32) →
      Q (-1000000000 - (1 : Int32)) h3
    ) ∧ (¬ ((kb (0 ≤ a1 ∧ a1 < (64 : Int32))) = 0) →
      ((¬ (kb (0 ≤ a2 ∧ a2 < (2 : Int32))) = 0 →
        (vp_in a1 64) ∧
        (vp_in a1 64) ∧
        ∀ h7 : kM, h7 = kU h 2 (a1).toNatClampNeg a2 →
        Q (h 2 (a1).toNatClampNeg) h7
      ) ∧ ((kb (0 ≤ a2 ∧ a2 < (2 : Int32))) = 0 →
        (vp_in (1 : Int32) 7) ∧
        ∀ h9 : kM, h9 = kErr h 87 (1 : Int32) →
        Q (-1000000000 - (1 : Int32)) h9
      ))
    ))) : Cal G d m_X7_land [.ref 0, .int a1, .int a2] h Q :=
  Cal.of [.ref 0, .int a1, .int a2, .null] (by decide +kernel) (Nat.le_of_ble_eq_true rfl) rfl (sg_X7_land_0 hd  H)

theorem sg_X8_land_0 {G : kG} {d : Nat} {Q : Int32 → kM → Prop}  {a1 : Int32} {a2 : Int32} {h : kM} (hd : 4 ≤ d)  (H :
    (((kb (0 ≤ a1 ∧ a1 ≤ 63)) = 0 →
      (vp_in (1 : Int32) 7) ∧
      ∀ h3 : kM, h3 = kErr h 93 (1 : Int32) →
      Q (-1000000000 - (1 : Int32)) h3
    ) ∧ (¬ ((kb (0 ≤ a1 ∧ a1 ≤ 63)) = 0) →
      (((kb ((0 : Int32) ≤ a2 ∧ a2 ≤ (1 : Int32))) = 0 →
        (vp_in (1 : Int32) 7) ∧
        ∀ h6 : kM, h6 = kErr h 93 (1 : Int32) →
        Q (-1000000000 - (1 : Int32)) h6
      ) ∧ (¬ ((kb ((0 : Int32) ≤ a2 ∧ a2 ≤ (1 : Int32))) = 0) →
        (vp_in ((8 : Int32) + a1) 481) ∧
        ∀ h8 : kM, h8 = kU h 89 (((8 : Int32) + a1)).toNatClampNeg a2 →
        Q (h 89 (((8 : Int32) + a1)).toNatClampNeg) h8
      ))
    ))) : Wp G d m_X8_land (kEo G d m_X8_land Q) 0 [.ref 88, .int a1, .int a2] [] h := by
  refine wp_iload_n 1 dX8_land_0 rfl rfl ?_
  refine wp_cS (d - 1) 1 [.int a1] [] 4 dX8_land_1 rfl (lk_X8_136 rfl) (by omega) rfl rfl (Nat.le_of_ble_eq_true rfl) (sp_X8_isCell (by omega)  ?_)
  refine wp_if_eq 28 7 dX8_land_4 rfl rfl ⟨fun c1 => ?_, fun c1 => ?_⟩
  · replace H := H.1 c1
    refine wp_aload_n 29 dX8_land_28 rfl rfl ?_
    refine wp_iconst (1 : Int32) 30 dX8_land_29 kiconst_1 rfl ?_
    have c2 := H.1; replace H := H.2
    refine wp_cV (d - 1) 1 [.int (1 : Int32)] [] 33 dX8_land_30 rfl (lk_X8_62 rfl) (by omega) kd_88 rfl rfl rfl (Nat.le_of_ble_eq_true rfl) (sp_X8_error (by omega) c2 (fun h3 eh3 => ?_))
    replace H := H h3 eh3
    exact wp_reti dX8_land_33 rfl H
  · replace H := H.2 c1
    refine wp_iload_n 8 dX8_land_7 rfl rfl ?_
    refine wp_iconst (0 : Int32) 9 dX8_land_8 kiconst_0 rfl ?_
    refine wp_iconst (1 : Int32) 10 dX8_land_9 kiconst_1 rfl ?_
    refine wp_cS (d - 1) 3 [.int a2, .int (0 : Int32), .int (1 : Int32)] [] 13 dX8_land_10 rfl (lk_X8_50 rfl) (by omega) rfl rfl (Nat.le_of_ble_eq_true rfl) (sp_X8_in (by omega)  ?_)
    refine wp_if_eq 28 16 dX8_land_13 rfl rfl ⟨fun c4 => ?_, fun c4 => ?_⟩
    · replace H := H.1 c4
      refine wp_aload_n 29 dX8_land_28 rfl rfl ?_
      refine wp_iconst (1 : Int32) 30 dX8_land_29 kiconst_1 rfl ?_
      have c5 := H.1; replace H := H.2
      refine wp_cV (d - 1) 1 [.int (1 : Int32)] [] 33 dX8_land_30 rfl (lk_X8_62 rfl) (by omega) kd_88 rfl rfl rfl (Nat.le_of_ble_eq_true rfl) (sp_X8_error (by omega) c5 (fun h6 eh6 => ?_))
      replace H := H h6 eh6
      exact wp_reti dX8_land_33 rfl H
    · replace H := H.2 c4
      refine wp_aload_n 17 dX8_land_16 rfl rfl ?_
      refine wp_bipush (8 : Int32) 19 dX8_land_17 kbipush_8 rfl ?_
      refine wp_iload_n 20 dX8_land_19 rfl rfl ?_
      refine wp_iadd 21 dX8_land_20 rfl ?_
      refine wp_iload_n 22 dX8_land_21 rfl rfl ?_
      have c7 := H.1; replace H := H.2
      refine wp_cV (d - 1) 2 [.int ((8 : Int32) + a1), .int a2] [] 25 dX8_land_22 rfl (lk_X8_139 rfl) (by omega) kd_88 rfl rfl rfl (Nat.le_of_ble_eq_true rfl) (sp_X8_change1 (by omega) c7 (fun h8 eh8 => ?_))
      replace H := H h8 eh8
      refine wp_goto 33 dX8_land_25 rfl ?_
      exact wp_reti dX8_land_33 rfl H

theorem cg_X8_land {G : kG} {d : Nat} {Q : Int32 → kM → Prop}  {a1 : Int32} {a2 : Int32} {h : kM} (hd : 4 ≤ d)  (H :
    (((kb (0 ≤ a1 ∧ a1 ≤ 63)) = 0 →
      (vp_in (1 : Int32) 7) ∧
      ∀ h3 : kM, h3 = kErr h 93 (1 : Int32) →
      Q (-1000000000 - (1 : Int32)) h3
    ) ∧ (¬ ((kb (0 ≤ a1 ∧ a1 ≤ 63)) = 0) →
      (((kb ((0 : Int32) ≤ a2 ∧ a2 ≤ (1 : Int32))) = 0 →
        (vp_in (1 : Int32) 7) ∧
        ∀ h6 : kM, h6 = kErr h 93 (1 : Int32) →
        Q (-1000000000 - (1 : Int32)) h6
      ) ∧ (¬ ((kb ((0 : Int32) ≤ a2 ∧ a2 ≤ (1 : Int32))) = 0) →
        (vp_in ((8 : Int32) + a1) 481) ∧
        ∀ h8 : kM, h8 = kU h 89 (((8 : Int32) + a1)).toNatClampNeg a2 →
        Q (h 89 (((8 : Int32) + a1)).toNatClampNeg) h8
      ))
    ))) : Cal G d m_X8_land [.ref 88, .int a1, .int a2] h Q :=
  Cal.of [.ref 88, .int a1, .int a2] (by decide +kernel) (Nat.le_of_ble_eq_true rfl) rfl (sg_X8_land_0 hd  H)

theorem sg_X7_drift_0 {G : kG} {d : Nat} {Q : Int32 → kM → Prop}  {a1 : Int32} {a2 : Int32} {h : kM} (hd : 4 ≤ d)  (H :
    (((kb (0 ≤ a1 ∧ a1 < (2 : Int32))) = 0 →
      (vp_in (1 : Int32) 7) ∧
      ∀ h3 : kM, h3 = kErr h 87 (1 : Int32) →
      Q (-1000000000 - (1 : Int32)) h3
    ) ∧ (¬ ((kb (0 ≤ a1 ∧ a1 < (2 : Int32))) = 0) →
      ((¬ (kb ((-9 : Int32) ≤ a2 ∧ a2 ≤ (9 : Int32))) = 0 →
        (vp_in a1 2) ∧
        (vp_in a1 2) ∧
        ∀ h7 : kM, h7 = kU h 3 (a1).toNatClampNeg a2 →
        Q (h 3 (a1).toNatClampNeg) h7
      ) ∧ ((kb ((-9 : Int32) ≤ a2 ∧ a2 ≤ (9 : Int32))) = 0 →
        (vp_in (1 : Int32) 7) ∧
        ∀ h9 : kM, h9 = kErr h 87 (1 : Int32) →
        Q (-1000000000 - (1 : Int32)) h9
      ))
    ))) : Wp G d m_X7_drift (kEo G d m_X7_drift Q) 0 [.ref 0, .int a1, .int a2, .null] [] h := by
  refine wp_iload_n 1 dX7_drift_0 rfl rfl ?_
  refine wp_iconst (2 : Int32) 2 dX7_drift_1 kiconst_2 rfl ?_
  refine wp_cS (d - 1) 2 [.int a1, .int (2 : Int32)] [] 5 dX7_drift_2 rfl (lk_X7_58 rfl) (by omega) rfl rfl (Nat.le_of_ble_eq_true rfl) (sp_X7_within (by omega)  ?_)
  refine wp_if_eq 19 8 dX7_drift_5 rfl rfl ⟨fun c1 => ?_, fun c1 => ?_⟩
  · replace H := H.1 c1
    refine wp_aload_n 20 dX7_drift_19 rfl rfl ?_
    refine wp_iconst (1 : Int32) 21 dX7_drift_20 kiconst_1 rfl ?_
    have c2 := H.1; replace H := H.2
    refine wp_cV (d - 1) 1 [.int (1 : Int32)] [] 24 dX7_drift_21 rfl (lk_X7_62 rfl) (by omega) kd_0 rfl rfl rfl (Nat.le_of_ble_eq_true rfl) (sp_X7_error (by omega) c2 (fun h3 eh3 => ?_))
    replace H := H h3 eh3
    exact wp_reti dX7_drift_24 rfl H
  · replace H := H.2 c1
    refine wp_iload_n 9 dX7_drift_8 rfl rfl ?_
    refine wp_bipush (-9 : Int32) 11 dX7_drift_9 kbipush_m9 rfl ?_
    refine wp_bipush (9 : Int32) 13 dX7_drift_11 kbipush_9 rfl ?_
    refine wp_cS (d - 1) 3 [.int a2, .int (-9 : Int32), .int (9 : Int32)] [] 16 dX7_drift_13 rfl (lk_X7_69 rfl) (by omega) rfl rfl (Nat.le_of_ble_eq_true rfl) (sp_X7_between (by omega)  ?_)
    refine wp_if_ne 25 19 dX7_drift_16 rfl rfl ⟨fun c4 => ?_, fun c4 => ?_⟩
    · replace H := H.1 c4
      refine wp_aload_n 26 dX7_drift_25 rfl rfl ?_
      refine wp_getR 1 1 29 dX7_drift_26 rfl fl_X7_12 kd_0 rfl rfl rfl rfl ?_
      refine wp_getR 2 3 32 dX7_drift_29 rfl fl_X7_73 kd_1 rfl rfl rfl rfl ?_
      refine wp_iload_n 33 dX7_drift_32 rfl rfl ?_
      have c5 := H.1; replace H := H.2
      refine wp_iald 34 dX7_drift_33 rfl kd_3 c5 ?_
      refine wp_istore_n 35 dX7_drift_34 rfl (Nat.le_of_ble_eq_true rfl) rfl ?_
      refine wp_aload_n 36 dX7_drift_35 rfl rfl ?_
      refine wp_getR 1 1 39 dX7_drift_36 rfl fl_X7_12 kd_0 rfl rfl rfl rfl ?_
      refine wp_getR 2 3 42 dX7_drift_39 rfl fl_X7_73 kd_1 rfl rfl rfl rfl ?_
      refine wp_iload_n 43 dX7_drift_42 rfl rfl ?_
      refine wp_iload_n 44 dX7_drift_43 rfl rfl ?_
      have c6 := H.1; replace H := H.2
      refine wp_iast 45 dX7_drift_44 rfl kd_3 c6 ?_
      refine wp_nm (fun h7 eh7 => ?_)
      replace H := H h7 eh7
      refine wp_iload_n 46 dX7_drift_45 rfl rfl ?_
      exact wp_reti dX7_drift_46 rfl H
    · replace H := H.2 c4
      refine wp_aload_n 20 dX7_drift_19 rfl rfl ?_
      refine wp_iconst (1 : Int32) 21 dX7_drift_20 kiconst_1 rfl ?_
      have c8 := H.1; replace H := H.2
      refine wp_cV (d - 1) 1 [.int (1 : Int32)] [] 24 dX7_drift_21 rfl (lk_X7_62 rfl) (by omega) kd_0 rfl rfl rfl (Nat.le_of_ble_eq_true rfl) (sp_X7_error (by omega) c8 (fun h9 eh9 => ?_))
      replace H := H h9 eh9
      exact wp_reti dX7_drift_24 rfl H

theorem cg_X7_drift {G : kG} {d : Nat} {Q : Int32 → kM → Prop}  {a1 : Int32} {a2 : Int32} {h : kM} (hd : 4 ≤ d)  (H :
    (((kb (0 ≤ a1 ∧ a1 < (2 : Int32))) = 0 →
      (vp_in (1 : Int32) 7) ∧
      ∀ h3 : kM, h3 = kErr h 87 (1 : Int32) →
      Q (-1000000000 - (1 : Int32)) h3
    ) ∧ (¬ ((kb (0 ≤ a1 ∧ a1 < (2 : Int32))) = 0) →
      ((¬ (kb ((-9 : Int32) ≤ a2 ∧ a2 ≤ (9 : Int32))) = 0 →
        (vp_in a1 2) ∧
        (vp_in a1 2) ∧
        ∀ h7 : kM, h7 = kU h 3 (a1).toNatClampNeg a2 →
        Q (h 3 (a1).toNatClampNeg) h7
      ) ∧ ((kb ((-9 : Int32) ≤ a2 ∧ a2 ≤ (9 : Int32))) = 0 →
        (vp_in (1 : Int32) 7) ∧
        ∀ h9 : kM, h9 = kErr h 87 (1 : Int32) →
        Q (-1000000000 - (1 : Int32)) h9
      ))
    ))) : Cal G d m_X7_drift [.ref 0, .int a1, .int a2] h Q :=
  Cal.of [.ref 0, .int a1, .int a2, .null] (by decide +kernel) (Nat.le_of_ble_eq_true rfl) rfl (sg_X7_drift_0 hd  H)

theorem sg_X8_drift_0 {G : kG} {d : Nat} {Q : Int32 → kM → Prop}  {a1 : Int32} {a2 : Int32} {h : kM} (hd : 4 ≤ d)  (H :
    (((kb ((0 : Int32) ≤ a1 ∧ a1 ≤ (1 : Int32))) = 0 →
      (vp_in (1 : Int32) 7) ∧
      ∀ h3 : kM, h3 = kErr h 93 (1 : Int32) →
      Q (-1000000000 - (1 : Int32)) h3
    ) ∧ (¬ ((kb ((0 : Int32) ≤ a1 ∧ a1 ≤ (1 : Int32))) = 0) →
      (((kb ((-9 : Int32) ≤ a2 ∧ a2 ≤ (9 : Int32))) = 0 →
        (vp_in (1 : Int32) 7) ∧
        ∀ h6 : kM, h6 = kErr h 93 (1 : Int32) →
        Q (-1000000000 - (1 : Int32)) h6
      ) ∧ (¬ ((kb ((-9 : Int32) ≤ a2 ∧ a2 ≤ (9 : Int32))) = 0) →
        (vp_in ((2 : Int32) + a1) 481) ∧
        ∀ h8 : kM, h8 = kU h 89 (((2 : Int32) + a1)).toNatClampNeg a2 →
        Q (h 89 (((2 : Int32) + a1)).toNatClampNeg) h8
      ))
    ))) : Wp G d m_X8_drift (kEo G d m_X8_drift Q) 0 [.ref 88, .int a1, .int a2] [] h := by
  refine wp_iload_n 1 dX8_drift_0 rfl rfl ?_
  refine wp_iconst (0 : Int32) 2 dX8_drift_1 kiconst_0 rfl ?_
  refine wp_iconst (1 : Int32) 3 dX8_drift_2 kiconst_1 rfl ?_
  refine wp_cS (d - 1) 3 [.int a1, .int (0 : Int32), .int (1 : Int32)] [] 6 dX8_drift_3 rfl (lk_X8_50 rfl) (by omega) rfl rfl (Nat.le_of_ble_eq_true rfl) (sp_X8_in (by omega)  ?_)
  refine wp_if_eq 31 9 dX8_drift_6 rfl rfl ⟨fun c1 => ?_, fun c1 => ?_⟩
  · replace H := H.1 c1
    refine wp_aload_n 32 dX8_drift_31 rfl rfl ?_
    refine wp_iconst (1 : Int32) 33 dX8_drift_32 kiconst_1 rfl ?_
    have c2 := H.1; replace H := H.2
    refine wp_cV (d - 1) 1 [.int (1 : Int32)] [] 36 dX8_drift_33 rfl (lk_X8_62 rfl) (by omega) kd_88 rfl rfl rfl (Nat.le_of_ble_eq_true rfl) (sp_X8_error (by omega) c2 (fun h3 eh3 => ?_))
    replace H := H h3 eh3
    exact wp_reti dX8_drift_36 rfl H
  · replace H := H.2 c1
    refine wp_iload_n 10 dX8_drift_9 rfl rfl ?_
    refine wp_bipush (-9 : Int32) 12 dX8_drift_10 kbipush_m9 rfl ?_
    refine wp_bipush (9 : Int32) 14 dX8_drift_12 kbipush_9 rfl ?_
    refine wp_cS (d - 1) 3 [.int a2, .int (-9 : Int32), .int (9 : Int32)] [] 17 dX8_drift_14 rfl (lk_X8_50 rfl) (by omega) rfl rfl (Nat.le_of_ble_eq_true rfl) (sp_X8_in (by omega)  ?_)
    refine wp_if_eq 31 20 dX8_drift_17 rfl rfl ⟨fun c4 => ?_, fun c4 => ?_⟩
    · replace H := H.1 c4
      refine wp_aload_n 32 dX8_drift_31 rfl rfl ?_
      refine wp_iconst (1 : Int32) 33 dX8_drift_32 kiconst_1 rfl ?_
      have c5 := H.1; replace H := H.2
      refine wp_cV (d - 1) 1 [.int (1 : Int32)] [] 36 dX8_drift_33 rfl (lk_X8_62 rfl) (by omega) kd_88 rfl rfl rfl (Nat.le_of_ble_eq_true rfl) (sp_X8_error (by omega) c5 (fun h6 eh6 => ?_))
      replace H := H h6 eh6
      exact wp_reti dX8_drift_36 rfl H
    · replace H := H.2 c4
      refine wp_aload_n 21 dX8_drift_20 rfl rfl ?_
      refine wp_iconst (2 : Int32) 22 dX8_drift_21 kiconst_2 rfl ?_
      refine wp_iload_n 23 dX8_drift_22 rfl rfl ?_
      refine wp_iadd 24 dX8_drift_23 rfl ?_
      refine wp_iload_n 25 dX8_drift_24 rfl rfl ?_
      have c7 := H.1; replace H := H.2
      refine wp_cV (d - 1) 2 [.int ((2 : Int32) + a1), .int a2] [] 28 dX8_drift_25 rfl (lk_X8_139 rfl) (by omega) kd_88 rfl rfl rfl (Nat.le_of_ble_eq_true rfl) (sp_X8_change1 (by omega) c7 (fun h8 eh8 => ?_))
      replace H := H h8 eh8
      refine wp_goto 36 dX8_drift_28 rfl ?_
      exact wp_reti dX8_drift_36 rfl H

theorem cg_X8_drift {G : kG} {d : Nat} {Q : Int32 → kM → Prop}  {a1 : Int32} {a2 : Int32} {h : kM} (hd : 4 ≤ d)  (H :
    (((kb ((0 : Int32) ≤ a1 ∧ a1 ≤ (1 : Int32))) = 0 →
      (vp_in (1 : Int32) 7) ∧
      ∀ h3 : kM, h3 = kErr h 93 (1 : Int32) →
      Q (-1000000000 - (1 : Int32)) h3
    ) ∧ (¬ ((kb ((0 : Int32) ≤ a1 ∧ a1 ≤ (1 : Int32))) = 0) →
      (((kb ((-9 : Int32) ≤ a2 ∧ a2 ≤ (9 : Int32))) = 0 →
        (vp_in (1 : Int32) 7) ∧
        ∀ h6 : kM, h6 = kErr h 93 (1 : Int32) →
        Q (-1000000000 - (1 : Int32)) h6
      ) ∧ (¬ ((kb ((-9 : Int32) ≤ a2 ∧ a2 ≤ (9 : Int32))) = 0) →
        (vp_in ((2 : Int32) + a1) 481) ∧
        ∀ h8 : kM, h8 = kU h 89 (((2 : Int32) + a1)).toNatClampNeg a2 →
        Q (h 89 (((2 : Int32) + a1)).toNatClampNeg) h8
      ))
    ))) : Cal G d m_X8_drift [.ref 88, .int a1, .int a2] h Q :=
  Cal.of [.ref 88, .int a1, .int a2] (by decide +kernel) (Nat.le_of_ble_eq_true rfl) rfl (sg_X8_drift_0 hd  H)

theorem sg_X7_seed_0 {G : kG} {d : Nat} {Q : Int32 → kM → Prop}  {a1 : Int32} {h : kM} (hd : 4 ≤ d)  (H :
    ∀ h1 : kM, h1 = kU h 1 16 a1 →
    Q (h 1 16) h1) : Wp G d m_X7_seed (kEo G d m_X7_seed Q) 0 [.ref 0, .int a1, .null] [] h := by
  refine wp_aload_n 1 dX7_seed_0 rfl rfl ?_
  refine wp_getR 1 1 4 dX7_seed_1 rfl fl_X7_12 kd_0 rfl rfl rfl rfl ?_
  refine wp_getI 7 dX7_seed_4 rfl fl_X7_183 kd_1 rfl ?_
  refine wp_istore_n 8 dX7_seed_7 rfl (Nat.le_of_ble_eq_true rfl) rfl ?_
  refine wp_aload_n 9 dX7_seed_8 rfl rfl ?_
  refine wp_getR 1 1 12 dX7_seed_9 rfl fl_X7_12 kd_0 rfl rfl rfl rfl ?_
  refine wp_iload_n 13 dX7_seed_12 rfl rfl ?_
  refine wp_putI 16 dX7_seed_13 rfl fl_X7_183 fin_2_16 kd_1 rfl ?_
  refine wp_nm (fun h1 eh1 => ?_)
  replace H := H h1 eh1
  refine wp_iload_n 17 dX7_seed_16 rfl rfl ?_
  exact wp_reti dX7_seed_17 rfl H

theorem cg_X7_seed {G : kG} {d : Nat} {Q : Int32 → kM → Prop}  {a1 : Int32} {h : kM} (hd : 4 ≤ d)  (H :
    ∀ h1 : kM, h1 = kU h 1 16 a1 →
    Q (h 1 16) h1) : Cal G d m_X7_seed [.ref 0, .int a1] h Q :=
  Cal.of [.ref 0, .int a1, .null] (by decide +kernel) (Nat.le_of_ble_eq_true rfl) rfl (sg_X7_seed_0 hd  H)

theorem sg_X8_seed_0 {G : kG} {d : Nat} {Q : Int32 → kM → Prop}  {a1 : Int32} {h : kM} (hd : 4 ≤ d)  (H :
    (vp_in (6 : Int32) 481) ∧
    ∀ h2 : kM, h2 = kU h 89 ((6 : Int32)).toNatClampNeg a1 →
    Q (h 89 ((6 : Int32)).toNatClampNeg) h2) : Wp G d m_X8_seed (kEo G d m_X8_seed Q) 0 [.ref 88, .int a1] [] h := by
  refine wp_aload_n 1 dX8_seed_0 rfl rfl ?_
  refine wp_bipush (6 : Int32) 3 dX8_seed_1 kbipush_6 rfl ?_
  refine wp_iload_n 4 dX8_seed_3 rfl rfl ?_
  have c1 := H.1; replace H := H.2
  refine wp_cV (d - 1) 2 [.int (6 : Int32), .int a1] [] 7 dX8_seed_4 rfl (lk_X8_139 rfl) (by omega) kd_88 rfl rfl rfl (Nat.le_of_ble_eq_true rfl) (sp_X8_change1 (by omega) c1 (fun h2 eh2 => ?_))
  replace H := H h2 eh2
  exact wp_reti dX8_seed_7 rfl H

theorem cg_X8_seed {G : kG} {d : Nat} {Q : Int32 → kM → Prop}  {a1 : Int32} {h : kM} (hd : 4 ≤ d)  (H :
    (vp_in (6 : Int32) 481) ∧
    ∀ h2 : kM, h2 = kU h 89 ((6 : Int32)).toNatClampNeg a1 →
    Q (h 89 ((6 : Int32)).toNatClampNeg) h2) : Cal G d m_X8_seed [.ref 88, .int a1] h Q :=
  Cal.of [.ref 88, .int a1] (by decide +kernel) (Nat.le_of_ble_eq_true rfl) rfl (sg_X8_seed_0 hd  H)

theorem sg_X7_told_0 {G : kG} {d : Nat} {Q : Int32 → kM → Prop}  {a1 : Int32} {h : kM} (hd : 4 ≤ d)  (H :
    ((¬ (kb ((1 : Int32) ≤ a1 ∧ a1 ≤ (6 : Int32))) = 0 →
      (vp_in a1 7) ∧
      Q (h 87 (a1).toNatClampNeg) h
    ) ∧ ((kb ((1 : Int32) ≤ a1 ∧ a1 ≤ (6 : Int32))) = 0 →
      (vp_in (1 : Int32) 7) ∧
      ∀ h4 : kM, h4 = kErr h 87 (1 : Int32) →
      Q (-1000000000 - (1 : Int32)) h4
    ))) : Wp G d m_X7_told (kEo G d m_X7_told Q) 0 [.ref 0, .int a1] [] h := by
  refine wp_iload_n 1 dX7_told_0 rfl rfl ?_
  refine wp_iconst (1 : Int32) 2 dX7_told_1 kiconst_1 rfl ?_
  refine wp_bipush (6 : Int32) 4 dX7_told_2 kbipush_6 rfl ?_
  refine wp_cS (d - 1) 3 [.int a1, .int (1 : Int32), .int (6 : Int32)] [] 7 dX7_told_4 rfl (lk_X7_69 rfl) (by omega) rfl rfl (Nat.le_of_ble_eq_true rfl) (sp_X7_between (by omega)  ?_)
  refine wp_if_ne 16 10 dX7_told_7 rfl rfl ⟨fun c1 => ?_, fun c1 => ?_⟩
  · replace H := H.1 c1
    refine wp_aload_n 17 dX7_told_16 rfl rfl ?_
    refine wp_getR 87 87 20 dX7_told_17 rfl fl_X7_53 kd_0 rfl rfl rfl rfl ?_
    refine wp_iload_n 21 dX7_told_20 rfl rfl ?_
    have c2 := H.1; replace H := H.2
    refine wp_iald 22 dX7_told_21 rfl kd_87 c2 ?_
    exact wp_reti dX7_told_22 rfl H
  · replace H := H.2 c1
    refine wp_aload_n 11 dX7_told_10 rfl rfl ?_
    refine wp_iconst (1 : Int32) 12 dX7_told_11 kiconst_1 rfl ?_
    have c3 := H.1; replace H := H.2
    refine wp_cV (d - 1) 1 [.int (1 : Int32)] [] 15 dX7_told_12 rfl (lk_X7_62 rfl) (by omega) kd_0 rfl rfl rfl (Nat.le_of_ble_eq_true rfl) (sp_X7_error (by omega) c3 (fun h4 eh4 => ?_))
    replace H := H h4 eh4
    exact wp_reti dX7_told_15 rfl H

theorem cg_X7_told {G : kG} {d : Nat} {Q : Int32 → kM → Prop}  {a1 : Int32} {h : kM} (hd : 4 ≤ d)  (H :
    ((¬ (kb ((1 : Int32) ≤ a1 ∧ a1 ≤ (6 : Int32))) = 0 →
      (vp_in a1 7) ∧
      Q (h 87 (a1).toNatClampNeg) h
    ) ∧ ((kb ((1 : Int32) ≤ a1 ∧ a1 ≤ (6 : Int32))) = 0 →
      (vp_in (1 : Int32) 7) ∧
      ∀ h4 : kM, h4 = kErr h 87 (1 : Int32) →
      Q (-1000000000 - (1 : Int32)) h4
    ))) : Cal G d m_X7_told [.ref 0, .int a1] h Q :=
  Cal.of [.ref 0, .int a1] (by decide +kernel) (Nat.le_of_ble_eq_true rfl) rfl (sg_X7_told_0 hd  H)

theorem sg_X8_told_0 {G : kG} {d : Nat} {Q : Int32 → kM → Prop}  {a1 : Int32} {h : kM} (hd : 4 ≤ d)  (H :
    (((kb ((1 : Int32) ≤ a1 ∧ a1 ≤ (6 : Int32))) = 0 →
      (vp_in (1 : Int32) 7) ∧
      ∀ h3 : kM, h3 = kErr h 93 (1 : Int32) →
      Q (-1000000000 - (1 : Int32)) h3
    ) ∧ (¬ ((kb ((1 : Int32) ≤ a1 ∧ a1 ≤ (6 : Int32))) = 0) →
      (vp_in a1 7) ∧
      Q (h 93 (a1).toNatClampNeg) h
    ))) : Wp G d m_X8_told (kEo G d m_X8_told Q) 0 [.ref 88, .int a1] [] h := by
  refine wp_iload_n 1 dX8_told_0 rfl rfl ?_
  refine wp_iconst (1 : Int32) 2 dX8_told_1 kiconst_1 rfl ?_
  refine wp_bipush (6 : Int32) 4 dX8_told_2 kbipush_6 rfl ?_
  refine wp_cS (d - 1) 3 [.int a1, .int (1 : Int32), .int (6 : Int32)] [] 7 dX8_told_4 rfl (lk_X8_50 rfl) (by omega) rfl rfl (Nat.le_of_ble_eq_true rfl) (sp_X8_in (by omega)  ?_)
  refine wp_if_eq 19 10 dX8_told_7 rfl rfl ⟨fun c1 => ?_, fun c1 => ?_⟩
  · replace H := H.1 c1
    refine wp_aload_n 20 dX8_told_19 rfl rfl ?_
    refine wp_iconst (1 : Int32) 21 dX8_told_20 kiconst_1 rfl ?_
    have c2 := H.1; replace H := H.2
    refine wp_cV (d - 1) 1 [.int (1 : Int32)] [] 24 dX8_told_21 rfl (lk_X8_62 rfl) (by omega) kd_88 rfl rfl rfl (Nat.le_of_ble_eq_true rfl) (sp_X8_error (by omega) c2 (fun h3 eh3 => ?_))
    replace H := H h3 eh3
    exact wp_reti dX8_told_24 rfl H
  · replace H := H.2 c1
    refine wp_aload_n 11 dX8_told_10 rfl rfl ?_
    refine wp_getR 5 93 14 dX8_told_11 rfl fl_X8_22 kd_88 rfl rfl rfl rfl ?_
    refine wp_iload_n 15 dX8_told_14 rfl rfl ?_
    have c4 := H.1; replace H := H.2
    refine wp_iald 16 dX8_told_15 rfl kd_93 c4 ?_
    refine wp_goto 24 dX8_told_16 rfl ?_
    exact wp_reti dX8_told_24 rfl H

theorem cg_X8_told {G : kG} {d : Nat} {Q : Int32 → kM → Prop}  {a1 : Int32} {h : kM} (hd : 4 ≤ d)  (H :
    (((kb ((1 : Int32) ≤ a1 ∧ a1 ≤ (6 : Int32))) = 0 →
      (vp_in (1 : Int32) 7) ∧
      ∀ h3 : kM, h3 = kErr h 93 (1 : Int32) →
      Q (-1000000000 - (1 : Int32)) h3
    ) ∧ (¬ ((kb ((1 : Int32) ≤ a1 ∧ a1 ≤ (6 : Int32))) = 0) →
      (vp_in a1 7) ∧
      Q (h 93 (a1).toNatClampNeg) h
    ))) : Cal G d m_X8_told [.ref 88, .int a1] h Q :=
  Cal.of [.ref 88, .int a1] (by decide +kernel) (Nat.le_of_ble_eq_true rfl) rfl (sg_X8_told_0 hd  H)

theorem sg_X7_body_0 {G : kG} {d : Nat} {Q : Int32 → kM → Prop}  {a1 : Int32} {h : kM} (hd : 4 ≤ d)  (H :
    ((¬ (kb (0 ≤ a1 ∧ a1 < (h 76 1))) = 0 →
      (vp_in a1 30) ∧
      Q (h 77 (a1).toNatClampNeg) h
    ) ∧ ((kb (0 ≤ a1 ∧ a1 < (h 76 1))) = 0 →
      (vp_in (2 : Int32) 7) ∧
      ∀ h4 : kM, h4 = kErr h 87 (2 : Int32) →
      Q (-1000000000 - (2 : Int32)) h4
    ))) : Wp G d m_X7_body (kEo G d m_X7_body Q) 0 [.ref 0, .int a1] [] h := by
  refine wp_iload_n 1 dX7_body_0 rfl rfl ?_
  refine wp_aload_n 2 dX7_body_1 rfl rfl ?_
  refine wp_getR 76 76 5 dX7_body_2 rfl fl_X7_43 kd_0 rfl rfl rfl rfl ?_
  refine wp_getI 8 dX7_body_5 rfl fl_X7_247 kd_76 rfl ?_
  refine wp_cS (d - 1) 2 [.int a1, .int (h 76 1)] [] 11 dX7_body_8 rfl (lk_X7_58 rfl) (by omega) rfl rfl (Nat.le_of_ble_eq_true rfl) (sp_X7_within (by omega)  ?_)
  refine wp_if_ne 20 14 dX7_body_11 rfl rfl ⟨fun c1 => ?_, fun c1 => ?_⟩
  · replace H := H.1 c1
    refine wp_aload_n 21 dX7_body_20 rfl rfl ?_
    refine wp_getR 76 76 24 dX7_body_21 rfl fl_X7_43 kd_0 rfl rfl rfl rfl ?_
    refine wp_getR 1 77 27 dX7_body_24 rfl fl_X7_250 kd_76 rfl rfl rfl rfl ?_
    refine wp_iload_n 28 dX7_body_27 rfl rfl ?_
    have c2 := H.1; replace H := H.2
    refine wp_iald 29 dX7_body_28 rfl kd_77 c2 ?_
    exact wp_reti dX7_body_29 rfl H
  · replace H := H.2 c1
    refine wp_aload_n 15 dX7_body_14 rfl rfl ?_
    refine wp_iconst (2 : Int32) 16 dX7_body_15 kiconst_2 rfl ?_
    have c3 := H.1; replace H := H.2
    refine wp_cV (d - 1) 1 [.int (2 : Int32)] [] 19 dX7_body_16 rfl (lk_X7_62 rfl) (by omega) kd_0 rfl rfl rfl (Nat.le_of_ble_eq_true rfl) (sp_X7_error (by omega) c3 (fun h4 eh4 => ?_))
    replace H := H h4 eh4
    exact wp_reti dX7_body_19 rfl H

theorem cg_X7_body {G : kG} {d : Nat} {Q : Int32 → kM → Prop}  {a1 : Int32} {h : kM} (hd : 4 ≤ d)  (H :
    ((¬ (kb (0 ≤ a1 ∧ a1 < (h 76 1))) = 0 →
      (vp_in a1 30) ∧
      Q (h 77 (a1).toNatClampNeg) h
    ) ∧ ((kb (0 ≤ a1 ∧ a1 < (h 76 1))) = 0 →
      (vp_in (2 : Int32) 7) ∧
      ∀ h4 : kM, h4 = kErr h 87 (2 : Int32) →
      Q (-1000000000 - (2 : Int32)) h4
    ))) : Cal G d m_X7_body [.ref 0, .int a1] h Q :=
  Cal.of [.ref 0, .int a1] (by decide +kernel) (Nat.le_of_ble_eq_true rfl) rfl (sg_X7_body_0 hd  H)

theorem sg_X8_body_0 {G : kG} {d : Nat} {Q : Int32 → kM → Prop}  {a1 : Int32} {h : kM} (hd : 4 ≤ d)  (H :
    (((kb ((0 : Int32) ≤ a1 ∧ a1 ≤ ((h 88 17) - (1 : Int32)))) = 0 →
      (vp_in (2 : Int32) 7) ∧
      ∀ h3 : kM, h3 = kErr h 93 (2 : Int32) →
      Q (-1000000000 - (2 : Int32)) h3
    ) ∧ (¬ ((kb ((0 : Int32) ≤ a1 ∧ a1 ≤ ((h 88 17) - (1 : Int32)))) = 0) →
      (vp_in a1 30) ∧
      Q (h 97 (a1).toNatClampNeg) h
    ))) : Wp G d m_X8_body (kEo G d m_X8_body Q) 0 [.ref 88, .int a1] [] h := by
  refine wp_iload_n 1 dX8_body_0 rfl rfl ?_
  refine wp_iconst (0 : Int32) 2 dX8_body_1 kiconst_0 rfl ?_
  refine wp_aload_n 3 dX8_body_2 rfl rfl ?_
  refine wp_getI 6 dX8_body_3 rfl fl_X8_247 kd_88 rfl ?_
  refine wp_iconst (1 : Int32) 7 dX8_body_6 kiconst_1 rfl ?_
  refine wp_isub 8 dX8_body_7 rfl ?_
  refine wp_cS (d - 1) 3 [.int a1, .int (0 : Int32), .int ((h 88 17) - (1 : Int32))] [] 11 dX8_body_8 rfl (lk_X8_50 rfl) (by omega) rfl rfl (Nat.le_of_ble_eq_true rfl) (sp_X8_in (by omega)  ?_)
  refine wp_if_eq 23 14 dX8_body_11 rfl rfl ⟨fun c1 => ?_, fun c1 => ?_⟩
  · replace H := H.1 c1
    refine wp_aload_n 24 dX8_body_23 rfl rfl ?_
    refine wp_iconst (2 : Int32) 25 dX8_body_24 kiconst_2 rfl ?_
    have c2 := H.1; replace H := H.2
    refine wp_cV (d - 1) 1 [.int (2 : Int32)] [] 28 dX8_body_25 rfl (lk_X8_62 rfl) (by omega) kd_88 rfl rfl rfl (Nat.le_of_ble_eq_true rfl) (sp_X8_error (by omega) c2 (fun h3 eh3 => ?_))
    replace H := H h3 eh3
    exact wp_reti dX8_body_28 rfl H
  · replace H := H.2 c1
    refine wp_aload_n 15 dX8_body_14 rfl rfl ?_
    refine wp_getR 9 97 18 dX8_body_15 rfl fl_X8_34 kd_88 rfl rfl rfl rfl ?_
    refine wp_iload_n 19 dX8_body_18 rfl rfl ?_
    have c4 := H.1; replace H := H.2
    refine wp_iald 20 dX8_body_19 rfl kd_97 c4 ?_
    refine wp_goto 28 dX8_body_20 rfl ?_
    exact wp_reti dX8_body_28 rfl H

theorem cg_X8_body {G : kG} {d : Nat} {Q : Int32 → kM → Prop}  {a1 : Int32} {h : kM} (hd : 4 ≤ d)  (H :
    (((kb ((0 : Int32) ≤ a1 ∧ a1 ≤ ((h 88 17) - (1 : Int32)))) = 0 →
      (vp_in (2 : Int32) 7) ∧
      ∀ h3 : kM, h3 = kErr h 93 (2 : Int32) →
      Q (-1000000000 - (2 : Int32)) h3
    ) ∧ (¬ ((kb ((0 : Int32) ≤ a1 ∧ a1 ≤ ((h 88 17) - (1 : Int32)))) = 0) →
      (vp_in a1 30) ∧
      Q (h 97 (a1).toNatClampNeg) h
    ))) : Cal G d m_X8_body [.ref 88, .int a1] h Q :=
  Cal.of [.ref 88, .int a1] (by decide +kernel) (Nat.le_of_ble_eq_true rfl) rfl (sg_X8_body_0 hd  H)

theorem sg_X7_tell_0 {G : kG} {d : Nat} {Q : Int32 → kM → Prop}  {a1 : Int32} {h : kM} (hd : 4 ≤ d)  (H :
    (((h 1 15) < (24 : Int32) →
      (vp_in (h 1 15) 24) ∧
      ∀ h3 : kM, h3 = kU h 11 ((h 1 15)).toNatClampNeg a1 →
      ∀ h4 : kM, h4 = kU h3 1 15 ((h3 1 15) + (1 : Int32)) →
      Q (h4 1 15) h4
    ) ∧ (¬ ((h 1 15) < (24 : Int32)) →
      (vp_in (4 : Int32) 7) ∧
      ∀ h6 : kM, h6 = kErr h 87 (4 : Int32) →
      Q (-1000000000 - (4 : Int32)) h6
    ))) : Wp G d m_X7_tell (kEo G d m_X7_tell Q) 0 [.ref 0, .int a1] [] h := by
  refine wp_aload_n 1 dX7_tell_0 rfl rfl ?_
  refine wp_getR 1 1 4 dX7_tell_1 rfl fl_X7_12 kd_0 rfl rfl rfl rfl ?_
  refine wp_getI 7 dX7_tell_4 rfl fl_X7_275 kd_1 rfl ?_
  refine wp_bipush (24 : Int32) 9 dX7_tell_7 kbipush_24 rfl ?_
  refine wp_icmp_lt 18 12 dX7_tell_9 rfl rfl ⟨fun c1 => ?_, fun c1 => ?_⟩
  · replace H := H.1 c1
    refine wp_aload_n 19 dX7_tell_18 rfl rfl ?_
    refine wp_getR 1 1 22 dX7_tell_19 rfl fl_X7_12 kd_0 rfl rfl rfl rfl ?_
    refine wp_getR 10 11 25 dX7_tell_22 rfl fl_X7_278 kd_1 rfl rfl rfl rfl ?_
    refine wp_aload_n 26 dX7_tell_25 rfl rfl ?_
    refine wp_getR 1 1 29 dX7_tell_26 rfl fl_X7_12 kd_0 rfl rfl rfl rfl ?_
    refine wp_getI 32 dX7_tell_29 rfl fl_X7_275 kd_1 rfl ?_
    refine wp_iload_n 33 dX7_tell_32 rfl rfl ?_
    have c2 := H.1; replace H := H.2
    refine wp_iast 34 dX7_tell_33 rfl kd_11 c2 ?_
    refine wp_nm (fun h3 eh3 => ?_)
    replace H := H h3 eh3
    refine wp_aload_n 35 dX7_tell_34 rfl rfl ?_
    refine wp_getR 1 1 38 dX7_tell_35 rfl fl_X7_12 kd_0 rfl rfl rfl rfl ?_
    refine wp_dup 39 dX7_tell_38 rfl rfl ?_
    refine wp_getI 42 dX7_tell_39 rfl fl_X7_275 kd_1 rfl ?_
    refine wp_iconst (1 : Int32) 43 dX7_tell_42 kiconst_1 rfl ?_
    refine wp_iadd 44 dX7_tell_43 rfl ?_
    refine wp_putI 47 dX7_tell_44 rfl fl_X7_275 fin_2_15 kd_1 rfl ?_
    refine wp_nm (fun h4 eh4 => ?_)
    replace H := H h4 eh4
    refine wp_aload_n 48 dX7_tell_47 rfl rfl ?_
    refine wp_getR 1 1 51 dX7_tell_48 rfl fl_X7_12 kd_0 rfl rfl rfl rfl ?_
    refine wp_getI 54 dX7_tell_51 rfl fl_X7_275 kd_1 rfl ?_
    exact wp_reti dX7_tell_54 rfl H
  · replace H := H.2 c1
    refine wp_aload_n 13 dX7_tell_12 rfl rfl ?_
    refine wp_iconst (4 : Int32) 14 dX7_tell_13 kiconst_4 rfl ?_
    have c5 := H.1; replace H := H.2
    refine wp_cV (d - 1) 1 [.int (4 : Int32)] [] 17 dX7_tell_14 rfl (lk_X7_62 rfl) (by omega) kd_0 rfl rfl rfl (Nat.le_of_ble_eq_true rfl) (sp_X7_error (by omega) c5 (fun h6 eh6 => ?_))
    replace H := H h6 eh6
    exact wp_reti dX7_tell_17 rfl H

theorem cg_X7_tell {G : kG} {d : Nat} {Q : Int32 → kM → Prop}  {a1 : Int32} {h : kM} (hd : 4 ≤ d)  (H :
    (((h 1 15) < (24 : Int32) →
      (vp_in (h 1 15) 24) ∧
      ∀ h3 : kM, h3 = kU h 11 ((h 1 15)).toNatClampNeg a1 →
      ∀ h4 : kM, h4 = kU h3 1 15 ((h3 1 15) + (1 : Int32)) →
      Q (h4 1 15) h4
    ) ∧ (¬ ((h 1 15) < (24 : Int32)) →
      (vp_in (4 : Int32) 7) ∧
      ∀ h6 : kM, h6 = kErr h 87 (4 : Int32) →
      Q (-1000000000 - (4 : Int32)) h6
    ))) : Cal G d m_X7_tell [.ref 0, .int a1] h Q :=
  Cal.of [.ref 0, .int a1] (by decide +kernel) (Nat.le_of_ble_eq_true rfl) rfl (sg_X7_tell_0 hd  H)

theorem sg_X8_tell_0 {G : kG} {d : Nat} {Q : Int32 → kM → Prop}  {a1 : Int32} {h : kM} (hd : 4 ≤ d)  (H :
    ((¬ (h 89 5) = (24 : Int32) →
      (vp_in ((457 : Int32) + (h 89 5)) 481) ∧
      ∀ h3 : kM, h3 = kU h 89 (((457 : Int32) + (h 89 5))).toNatClampNeg a1 →
      ∀ h4 : kM, h4 = kU h3 89 5 ((h3 89 5) + (1 : Int32)) →
      Q (h4 89 5) h4
    ) ∧ ((h 89 5) = (24 : Int32) →
      (vp_in (4 : Int32) 7) ∧
      ∀ h6 : kM, h6 = kErr h 93 (4 : Int32) →
      Q (-1000000000 - (4 : Int32)) h6
    ))) : Wp G d m_X8_tell (kEo G d m_X8_tell Q) 0 [.ref 88, .int a1] [] h := by
  refine wp_aload_n 1 dX8_tell_0 rfl rfl ?_
  refine wp_getR 1 89 4 dX8_tell_1 rfl fl_X8_7 kd_88 rfl rfl rfl rfl ?_
  refine wp_iconst (5 : Int32) 5 dX8_tell_4 kiconst_5 rfl ?_
  refine wp_iald 6 dX8_tell_5 rfl kd_89 (by unfold vp_in; decide) ?_
  refine wp_bipush (24 : Int32) 8 dX8_tell_6 kbipush_24 rfl ?_
  refine wp_icmp_ne 17 11 dX8_tell_8 rfl rfl ⟨fun c1 => ?_, fun c1 => ?_⟩
  · replace H := H.1 c1
    refine wp_aload_n 18 dX8_tell_17 rfl rfl ?_
    refine wp_getR 1 89 21 dX8_tell_18 rfl fl_X8_7 kd_88 rfl rfl rfl rfl ?_
    refine wp_sipush (457 : Int32) 24 dX8_tell_21 ksipush_457 rfl ?_
    refine wp_aload_n 25 dX8_tell_24 rfl rfl ?_
    refine wp_getR 1 89 28 dX8_tell_25 rfl fl_X8_7 kd_88 rfl rfl rfl rfl ?_
    refine wp_iconst (5 : Int32) 29 dX8_tell_28 kiconst_5 rfl ?_
    refine wp_iald 30 dX8_tell_29 rfl kd_89 (by unfold vp_in; decide) ?_
    refine wp_iadd 31 dX8_tell_30 rfl ?_
    refine wp_iload_n 32 dX8_tell_31 rfl rfl ?_
    have c2 := H.1; replace H := H.2
    refine wp_iast 33 dX8_tell_32 rfl kd_89 c2 ?_
    refine wp_nm (fun h3 eh3 => ?_)
    replace H := H h3 eh3
    refine wp_aload_n 34 dX8_tell_33 rfl rfl ?_
    refine wp_getR 1 89 37 dX8_tell_34 rfl fl_X8_7 kd_88 rfl rfl rfl rfl ?_
    refine wp_iconst (5 : Int32) 38 dX8_tell_37 kiconst_5 rfl ?_
    refine wp_dup2 39 dX8_tell_38 rfl rfl rfl ?_
    refine wp_iald 40 dX8_tell_39 rfl kd_89 (by unfold vp_in; decide) ?_
    refine wp_iconst (1 : Int32) 41 dX8_tell_40 kiconst_1 rfl ?_
    refine wp_iadd 42 dX8_tell_41 rfl ?_
    refine wp_iast 43 dX8_tell_42 rfl kd_89 (by unfold vp_in; decide) ?_
    refine wp_nm (fun h4 eh4 => ?_)
    replace H := H h4 eh4
    refine wp_aload_n 44 dX8_tell_43 rfl rfl ?_
    refine wp_getR 1 89 47 dX8_tell_44 rfl fl_X8_7 kd_88 rfl rfl rfl rfl ?_
    refine wp_iconst (5 : Int32) 48 dX8_tell_47 kiconst_5 rfl ?_
    refine wp_iald 49 dX8_tell_48 rfl kd_89 (by unfold vp_in; decide) ?_
    exact wp_reti dX8_tell_49 rfl H
  · replace H := H.2 c1
    refine wp_aload_n 12 dX8_tell_11 rfl rfl ?_
    refine wp_iconst (4 : Int32) 13 dX8_tell_12 kiconst_4 rfl ?_
    have c5 := H.1; replace H := H.2
    refine wp_cV (d - 1) 1 [.int (4 : Int32)] [] 16 dX8_tell_13 rfl (lk_X8_62 rfl) (by omega) kd_88 rfl rfl rfl (Nat.le_of_ble_eq_true rfl) (sp_X8_error (by omega) c5 (fun h6 eh6 => ?_))
    replace H := H h6 eh6
    exact wp_reti dX8_tell_16 rfl H

theorem cg_X8_tell {G : kG} {d : Nat} {Q : Int32 → kM → Prop}  {a1 : Int32} {h : kM} (hd : 4 ≤ d)  (H :
    ((¬ (h 89 5) = (24 : Int32) →
      (vp_in ((457 : Int32) + (h 89 5)) 481) ∧
      ∀ h3 : kM, h3 = kU h 89 (((457 : Int32) + (h 89 5))).toNatClampNeg a1 →
      ∀ h4 : kM, h4 = kU h3 89 5 ((h3 89 5) + (1 : Int32)) →
      Q (h4 89 5) h4
    ) ∧ ((h 89 5) = (24 : Int32) →
      (vp_in (4 : Int32) 7) ∧
      ∀ h6 : kM, h6 = kErr h 93 (4 : Int32) →
      Q (-1000000000 - (4 : Int32)) h6
    ))) : Cal G d m_X8_tell [.ref 88, .int a1] h Q :=
  Cal.of [.ref 88, .int a1] (by decide +kernel) (Nat.le_of_ble_eq_true rfl) rfl (sg_X8_tell_0 hd  H)

theorem sg_X7_bring_0 {G : kG} {d : Nat} {Q : Int32 → kM → Prop}  {a1 : Int32} {a2 : Int32} {h : kM} (hd : 4 ≤ d)  (H :
    (((kb (0 ≤ a1 ∧ a1 < h 1 12)) = 0 →
      (vp_in (1 : Int32) 7) ∧
      ∀ h3 : kM, h3 = kErr h 87 (1 : Int32) →
      Q (-1000000000 - (1 : Int32)) h3
    ) ∧ (¬ ((kb (0 ≤ a1 ∧ a1 < h 1 12)) = 0) →
      ((¬ (kb (0 ≤ a2 ∧ a2 < (64 : Int32))) = 0 →
        (vp_in a1 5) ∧
        (vp_in a1 5) ∧
        (vp_in a1 5) ∧
        ∀ h8 : kM, h8 = kU h 4 (a1).toNatClampNeg (kLaid a2 (h 5 (a1).toNatClampNeg)) →
        Q (iR (h 4 (a1).toNatClampNeg) 64) h8
      ) ∧ ((kb (0 ≤ a2 ∧ a2 < (64 : Int32))) = 0 →
        (vp_in (1 : Int32) 7) ∧
        ∀ h10 : kM, h10 = kErr h 87 (1 : Int32) →
        Q (-1000000000 - (1 : Int32)) h10
      ))
    ))) : Wp G d m_X7_bring (kEo G d m_X7_bring Q) 0 [.ref 0, .int a1, .int a2, .null] [] h := by
  refine wp_aload_n 1 dX7_bring_0 rfl rfl ?_
  refine wp_iload_n 2 dX7_bring_1 rfl rfl ?_
  refine wp_cV (d - 1) 1 [.int a1] [] 5 dX7_bring_2 rfl (lk_X7_84 rfl) (by omega) kd_0 rfl rfl rfl (Nat.le_of_ble_eq_true rfl) (sp_X7_isShip (by omega)  ?_)
  refine wp_if_eq 17 8 dX7_bring_5 rfl rfl ⟨fun c1 => ?_, fun c1 => ?_⟩
  · replace H := H.1 c1
    refine wp_aload_n 18 dX7_bring_17 rfl rfl ?_
    refine wp_iconst (1 : Int32) 19 dX7_bring_18 kiconst_1 rfl ?_
    have c2 := H.1; replace H := H.2
    refine wp_cV (d - 1) 1 [.int (1 : Int32)] [] 22 dX7_bring_19 rfl (lk_X7_62 rfl) (by omega) kd_0 rfl rfl rfl (Nat.le_of_ble_eq_true rfl) (sp_X7_error (by omega) c2 (fun h3 eh3 => ?_))
    replace H := H h3 eh3
    exact wp_reti dX7_bring_22 rfl H
  · replace H := H.2 c1
    refine wp_iload_n 9 dX7_bring_8 rfl rfl ?_
    refine wp_bipush (64 : Int32) 11 dX7_bring_9 kbipush_64 rfl ?_
    refine wp_cS (d - 1) 2 [.int a2, .int (64 : Int32)] [] 14 dX7_bring_11 rfl (lk_X7_58 rfl) (by omega) rfl rfl (Nat.le_of_ble_eq_true rfl) (sp_X7_within (by omega)  ?_)
    refine wp_if_ne 23 17 dX7_bring_14 rfl rfl ⟨fun c4 => ?_, fun c4 => ?_⟩
    · replace H := H.1 c4
      refine wp_aload_n 24 dX7_bring_23 rfl rfl ?_
      refine wp_getR 1 1 27 dX7_bring_24 rfl fl_X7_12 kd_0 rfl rfl rfl rfl ?_
      refine wp_getR 3 4 30 dX7_bring_27 rfl fl_X7_88 kd_1 rfl rfl rfl rfl ?_
      refine wp_iload_n 31 dX7_bring_30 rfl rfl ?_
      have c5 := H.1; replace H := H.2
      refine wp_iald 32 dX7_bring_31 rfl kd_4 c5 ?_
      refine wp_cS (d - 1) 1 [.int (h 4 (a1).toNatClampNeg)] [] 35 dX7_bring_32 rfl (lk_X7_95 rfl) (by omega) rfl rfl (Nat.le_of_ble_eq_true rfl) (sp_X7_cellOf (by omega)  ?_)
      refine wp_istore_n 36 dX7_bring_35 rfl (Nat.le_of_ble_eq_true rfl) rfl ?_
      refine wp_aload_n 37 dX7_bring_36 rfl rfl ?_
      refine wp_getR 1 1 40 dX7_bring_37 rfl fl_X7_12 kd_0 rfl rfl rfl rfl ?_
      refine wp_getR 3 4 43 dX7_bring_40 rfl fl_X7_88 kd_1 rfl rfl rfl rfl ?_
      refine wp_iload_n 44 dX7_bring_43 rfl rfl ?_
      refine wp_iload_n 45 dX7_bring_44 rfl rfl ?_
      refine wp_aload_n 46 dX7_bring_45 rfl rfl ?_
      refine wp_getR 1 1 49 dX7_bring_46 rfl fl_X7_12 kd_0 rfl rfl rfl rfl ?_
      refine wp_getR 4 5 52 dX7_bring_49 rfl fl_X7_98 kd_1 rfl rfl rfl rfl ?_
      refine wp_iload_n 53 dX7_bring_52 rfl rfl ?_
      have c6 := H.1; replace H := H.2
      refine wp_iald 54 dX7_bring_53 rfl kd_5 c6 ?_
      refine wp_cS (d - 1) 2 [.int a2, .int (h 5 (a1).toNatClampNeg)] [.int a1, .ref 4] 57 dX7_bring_54 rfl (lk_X7_101 rfl) (by omega) rfl rfl (Nat.le_of_ble_eq_true rfl) (sp_X7_laid (by omega)  ?_)
      have c7 := H.1; replace H := H.2
      refine wp_iast 58 dX7_bring_57 rfl kd_4 c7 ?_
      refine wp_nm (fun h8 eh8 => ?_)
      replace H := H h8 eh8
      refine wp_iload_n 59 dX7_bring_58 rfl rfl ?_
      exact wp_reti dX7_bring_59 rfl H
    · replace H := H.2 c4
      refine wp_aload_n 18 dX7_bring_17 rfl rfl ?_
      refine wp_iconst (1 : Int32) 19 dX7_bring_18 kiconst_1 rfl ?_
      have c9 := H.1; replace H := H.2
      refine wp_cV (d - 1) 1 [.int (1 : Int32)] [] 22 dX7_bring_19 rfl (lk_X7_62 rfl) (by omega) kd_0 rfl rfl rfl (Nat.le_of_ble_eq_true rfl) (sp_X7_error (by omega) c9 (fun h10 eh10 => ?_))
      replace H := H h10 eh10
      exact wp_reti dX7_bring_22 rfl H

theorem cg_X7_bring {G : kG} {d : Nat} {Q : Int32 → kM → Prop}  {a1 : Int32} {a2 : Int32} {h : kM} (hd : 4 ≤ d)  (H :
    (((kb (0 ≤ a1 ∧ a1 < h 1 12)) = 0 →
      (vp_in (1 : Int32) 7) ∧
      ∀ h3 : kM, h3 = kErr h 87 (1 : Int32) →
      Q (-1000000000 - (1 : Int32)) h3
    ) ∧ (¬ ((kb (0 ≤ a1 ∧ a1 < h 1 12)) = 0) →
      ((¬ (kb (0 ≤ a2 ∧ a2 < (64 : Int32))) = 0 →
        (vp_in a1 5) ∧
        (vp_in a1 5) ∧
        (vp_in a1 5) ∧
        ∀ h8 : kM, h8 = kU h 4 (a1).toNatClampNeg (kLaid a2 (h 5 (a1).toNatClampNeg)) →
        Q (iR (h 4 (a1).toNatClampNeg) 64) h8
      ) ∧ ((kb (0 ≤ a2 ∧ a2 < (64 : Int32))) = 0 →
        (vp_in (1 : Int32) 7) ∧
        ∀ h10 : kM, h10 = kErr h 87 (1 : Int32) →
        Q (-1000000000 - (1 : Int32)) h10
      ))
    ))) : Cal G d m_X7_bring [.ref 0, .int a1, .int a2] h Q :=
  Cal.of [.ref 0, .int a1, .int a2, .null] (by decide +kernel) (Nat.le_of_ble_eq_true rfl) rfl (sg_X7_bring_0 hd  H)

theorem sg_X8_bring_0 {G : kG} {d : Nat} {Q : Int32 → kM → Prop}  {a1 : Int32} {a2 : Int32} {h : kM} (hd : 4 ≤ d)  (H :
    (((kb (0 ≤ a1 ∧ a1 ≤ h 89 0 - 1)) = 0 →
      (vp_in (1 : Int32) 7) ∧
      ∀ h3 : kM, h3 = kErr h 93 (1 : Int32) →
      Q (-1000000000 - (1 : Int32)) h3
    ) ∧ (¬ ((kb (0 ≤ a1 ∧ a1 ≤ h 89 0 - 1)) = 0) →
      ((¬ (kb (0 ≤ a2 ∧ a2 ≤ 63)) = 0 →
        (okO a1 (0 : Int32)) ∧
        (okO a1 0 ∧ okO a1 1 ∧ okO a1 2) ∧
        ∀ h7 : kM, h7 = mBring h a1 a2 →
        Q (mOf (h 89) a1 (0 : Int32)) h7
      ) ∧ ((kb (0 ≤ a2 ∧ a2 ≤ 63)) = 0 →
        (vp_in (1 : Int32) 7) ∧
        ∀ h9 : kM, h9 = kErr h 93 (1 : Int32) →
        Q (-1000000000 - (1 : Int32)) h9
      ))
    ))) : Wp G d m_X8_bring (kEo G d m_X8_bring Q) 0 [.ref 88, .int a1, .int a2, .null] [] h := by
  refine wp_aload_n 1 dX8_bring_0 rfl rfl ?_
  refine wp_iload_n 2 dX8_bring_1 rfl rfl ?_
  refine wp_cV (d - 1) 1 [.int a1] [] 5 dX8_bring_2 rfl (lk_X8_54 rfl) (by omega) kd_88 rfl rfl rfl (Nat.le_of_ble_eq_true rfl) (sp_X8_isShip (by omega)  ?_)
  refine wp_if_eq 15 8 dX8_bring_5 rfl rfl ⟨fun c1 => ?_, fun c1 => ?_⟩
  · replace H := H.1 c1
    refine wp_aload_n 16 dX8_bring_15 rfl rfl ?_
    refine wp_iconst (1 : Int32) 17 dX8_bring_16 kiconst_1 rfl ?_
    have c2 := H.1; replace H := H.2
    refine wp_cV (d - 1) 1 [.int (1 : Int32)] [] 20 dX8_bring_17 rfl (lk_X8_62 rfl) (by omega) kd_88 rfl rfl rfl (Nat.le_of_ble_eq_true rfl) (sp_X8_error (by omega) c2 (fun h3 eh3 => ?_))
    replace H := H h3 eh3
    exact wp_reti dX8_bring_20 rfl H
  · replace H := H.2 c1
    refine wp_iload_n 9 dX8_bring_8 rfl rfl ?_
    refine wp_cS (d - 1) 1 [.int a2] [] 12 dX8_bring_9 rfl (lk_X8_136 rfl) (by omega) rfl rfl (Nat.le_of_ble_eq_true rfl) (sp_X8_isCell (by omega)  ?_)
    refine wp_if_ne 21 15 dX8_bring_12 rfl rfl ⟨fun c4 => ?_, fun c4 => ?_⟩
    · replace H := H.1 c4
      refine wp_aload_n 22 dX8_bring_21 rfl rfl ?_
      refine wp_iload_n 23 dX8_bring_22 rfl rfl ?_
      refine wp_iconst (0 : Int32) 24 dX8_bring_23 kiconst_0 rfl ?_
      have c5 := H.1; replace H := H.2
      refine wp_cV (d - 1) 2 [.int a1, .int (0 : Int32)] [] 27 dX8_bring_24 rfl (lk_X8_146 rfl) (by omega) kd_88 rfl rfl rfl (Nat.le_of_ble_eq_true rfl) (sp_X8_of (by omega) c5 ?_)
      refine wp_istore_n 28 dX8_bring_27 rfl (Nat.le_of_ble_eq_true rfl) rfl ?_
      refine wp_aload_n 29 dX8_bring_28 rfl rfl ?_
      refine wp_iload_n 30 dX8_bring_29 rfl rfl ?_
      refine wp_iload_n 31 dX8_bring_30 rfl rfl ?_
      have c6 := H.1; replace H := H.2
      refine wp_cV (d - 1) 2 [.int a1, .int a2] [] 34 dX8_bring_31 rfl (lk_X8_149 rfl) (by omega) kd_88 rfl rfl rfl (Nat.le_of_ble_eq_true rfl) (sp_X8_brings (by omega) c6 (fun h7 eh7 => ?_))
      replace H := H h7 eh7
      refine wp_iload_n 35 dX8_bring_34 rfl rfl ?_
      exact wp_reti dX8_bring_35 rfl H
    · replace H := H.2 c4
      refine wp_aload_n 16 dX8_bring_15 rfl rfl ?_
      refine wp_iconst (1 : Int32) 17 dX8_bring_16 kiconst_1 rfl ?_
      have c8 := H.1; replace H := H.2
      refine wp_cV (d - 1) 1 [.int (1 : Int32)] [] 20 dX8_bring_17 rfl (lk_X8_62 rfl) (by omega) kd_88 rfl rfl rfl (Nat.le_of_ble_eq_true rfl) (sp_X8_error (by omega) c8 (fun h9 eh9 => ?_))
      replace H := H h9 eh9
      exact wp_reti dX8_bring_20 rfl H

theorem cg_X8_bring {G : kG} {d : Nat} {Q : Int32 → kM → Prop}  {a1 : Int32} {a2 : Int32} {h : kM} (hd : 4 ≤ d)  (H :
    (((kb (0 ≤ a1 ∧ a1 ≤ h 89 0 - 1)) = 0 →
      (vp_in (1 : Int32) 7) ∧
      ∀ h3 : kM, h3 = kErr h 93 (1 : Int32) →
      Q (-1000000000 - (1 : Int32)) h3
    ) ∧ (¬ ((kb (0 ≤ a1 ∧ a1 ≤ h 89 0 - 1)) = 0) →
      ((¬ (kb (0 ≤ a2 ∧ a2 ≤ 63)) = 0 →
        (okO a1 (0 : Int32)) ∧
        (okO a1 0 ∧ okO a1 1 ∧ okO a1 2) ∧
        ∀ h7 : kM, h7 = mBring h a1 a2 →
        Q (mOf (h 89) a1 (0 : Int32)) h7
      ) ∧ ((kb (0 ≤ a2 ∧ a2 ≤ 63)) = 0 →
        (vp_in (1 : Int32) 7) ∧
        ∀ h9 : kM, h9 = kErr h 93 (1 : Int32) →
        Q (-1000000000 - (1 : Int32)) h9
      ))
    ))) : Cal G d m_X8_bring [.ref 88, .int a1, .int a2] h Q :=
  Cal.of [.ref 88, .int a1, .int a2, .null] (by decide +kernel) (Nat.le_of_ble_eq_true rfl) rfl (sg_X8_bring_0 hd  H)

theorem sg_X7_tie_0 {G : kG} {d : Nat} {Q : Int32 → kM → Prop}  {a1 : Int32} {a2 : Int32} {a3 : Int32} {a4 : Int32} {h : kM} (hd : 5 ≤ d)  (H :
    (((kb ((0 ≤ a1 ∧ a1 < h 1 12) ∧ (0 ≤ a2 ∧ a2 < 3))) = 0 →
      (vp_in (1 : Int32) 7) ∧
      ∀ h3 : kM, h3 = kErr h 87 (1 : Int32) →
      Q (-1000000000 - (1 : Int32)) h3
    ) ∧ (¬ ((kb ((0 ≤ a1 ∧ a1 < h 1 12) ∧ (0 ≤ a2 ∧ a2 < 3))) = 0) →
      (((kb (0 ≤ a3 ∧ a3 < (70 : Int32))) = 0 →
        (vp_in (1 : Int32) 7) ∧
        ∀ h6 : kM, h6 = kErr h 87 (1 : Int32) →
        Q (-1000000000 - (1 : Int32)) h6
      ) ∧ (¬ ((kb (0 ≤ a3 ∧ a3 < (70 : Int32))) = 0) →
        ((¬ (kb (0 ≤ a4 ∧ a4 < (4 : Int32))) = 0 →
          (vp_in (((3 : Int32) * a1) + a2) 15) ∧
          (vp_in (((3 : Int32) * a1) + a2) 15) ∧
          (vp_in (((3 : Int32) * a1) + a2) 15) ∧
          (vp_in (((3 : Int32) * a1) + a2) 15) ∧
          ∀ h12 : kM, h12 = kTie h 1 (((3 : Int32) * a1) + a2) a3 a4 →
          Q ((((100 : Int32) * (h 8 ((((3 : Int32) * a1) + a2)).toNatClampNeg)) + ((10 : Int32) * (h 6 ((((3 : Int32) * a1) + a2)).toNatClampNeg))) + (h 7 ((((3 : Int32) * a1) + a2)).toNatClampNeg)) h12
        ) ∧ ((kb (0 ≤ a4 ∧ a4 < (4 : Int32))) = 0 →
          (vp_in (1 : Int32) 7) ∧
          ∀ h14 : kM, h14 = kErr h 87 (1 : Int32) →
          Q (-1000000000 - (1 : Int32)) h14
        ))
      ))
    ))) : Wp G d m_X7_tie (kEo G d m_X7_tie Q) 0 [.ref 0, .int a1, .int a2, .int a3, .int a4, .null, .null] [] h := by
  refine wp_aload_n 1 dX7_tie_0 rfl rfl ?_
  refine wp_iload_n 2 dX7_tie_1 rfl rfl ?_
  refine wp_iload_n 3 dX7_tie_2 rfl rfl ?_
  refine wp_cV (d - 1) 2 [.int a1, .int a2] [] 6 dX7_tie_3 rfl (lk_X7_104 rfl) (by omega) kd_0 rfl rfl rfl (Nat.le_of_ble_eq_true rfl) (sp_X7_isKnot (by omega)  ?_)
  refine wp_if_eq 27 9 dX7_tie_6 rfl rfl ⟨fun c1 => ?_, fun c1 => ?_⟩
  · replace H := H.1 c1
    refine wp_aload_n 28 dX7_tie_27 rfl rfl ?_
    refine wp_iconst (1 : Int32) 29 dX7_tie_28 kiconst_1 rfl ?_
    have c2 := H.1; replace H := H.2
    refine wp_cV (d - 1) 1 [.int (1 : Int32)] [] 32 dX7_tie_29 rfl (lk_X7_62 rfl) (by omega) kd_0 rfl rfl rfl (Nat.le_of_ble_eq_true rfl) (sp_X7_error (by omega) c2 (fun h3 eh3 => ?_))
    replace H := H h3 eh3
    exact wp_reti dX7_tie_32 rfl H
  · replace H := H.2 c1
    refine wp_iload_n 10 dX7_tie_9 rfl rfl ?_
    refine wp_bipush (70 : Int32) 12 dX7_tie_10 kbipush_70 rfl ?_
    refine wp_cS (d - 1) 2 [.int a3, .int (70 : Int32)] [] 15 dX7_tie_12 rfl (lk_X7_58 rfl) (by omega) rfl rfl (Nat.le_of_ble_eq_true rfl) (sp_X7_within (by omega)  ?_)
    refine wp_if_eq 27 18 dX7_tie_15 rfl rfl ⟨fun c4 => ?_, fun c4 => ?_⟩
    · replace H := H.1 c4
      refine wp_aload_n 28 dX7_tie_27 rfl rfl ?_
      refine wp_iconst (1 : Int32) 29 dX7_tie_28 kiconst_1 rfl ?_
      have c5 := H.1; replace H := H.2
      refine wp_cV (d - 1) 1 [.int (1 : Int32)] [] 32 dX7_tie_29 rfl (lk_X7_62 rfl) (by omega) kd_0 rfl rfl rfl (Nat.le_of_ble_eq_true rfl) (sp_X7_error (by omega) c5 (fun h6 eh6 => ?_))
      replace H := H h6 eh6
      exact wp_reti dX7_tie_32 rfl H
    · replace H := H.2 c4
      refine wp_iload 20 dX7_tie_18 rfl rfl ?_
      refine wp_iconst (4 : Int32) 21 dX7_tie_20 kiconst_4 rfl ?_
      refine wp_cS (d - 1) 2 [.int a4, .int (4 : Int32)] [] 24 dX7_tie_21 rfl (lk_X7_58 rfl) (by omega) rfl rfl (Nat.le_of_ble_eq_true rfl) (sp_X7_within (by omega)  ?_)
      refine wp_if_ne 33 27 dX7_tie_24 rfl rfl ⟨fun c7 => ?_, fun c7 => ?_⟩
      · replace H := H.1 c7
        refine wp_iconst (3 : Int32) 34 dX7_tie_33 kiconst_3 rfl ?_
        refine wp_iload_n 35 dX7_tie_34 rfl rfl ?_
        refine wp_imul 36 dX7_tie_35 rfl ?_
        refine wp_iload_n 37 dX7_tie_36 rfl rfl ?_
        refine wp_iadd 38 dX7_tie_37 rfl ?_
        refine wp_istore 40 dX7_tie_38 rfl (Nat.le_of_ble_eq_true rfl) rfl ?_
        refine wp_bipush (100 : Int32) 42 dX7_tie_40 kbipush_100 rfl ?_
        refine wp_aload_n 43 dX7_tie_42 rfl rfl ?_
        refine wp_getR 1 1 46 dX7_tie_43 rfl fl_X7_12 kd_0 rfl rfl rfl rfl ?_
        refine wp_getR 7 8 49 dX7_tie_46 rfl fl_X7_107 kd_1 rfl rfl rfl rfl ?_
        refine wp_iload 51 dX7_tie_49 rfl rfl ?_
        have c8 := H.1; replace H := H.2
        refine wp_iald 52 dX7_tie_51 rfl kd_8 c8 ?_
        refine wp_imul 53 dX7_tie_52 rfl ?_
        refine wp_bipush (10 : Int32) 55 dX7_tie_53 kbipush_10 rfl ?_
        refine wp_aload_n 56 dX7_tie_55 rfl rfl ?_
        refine wp_getR 1 1 59 dX7_tie_56 rfl fl_X7_12 kd_0 rfl rfl rfl rfl ?_
        refine wp_getR 5 6 62 dX7_tie_59 rfl fl_X7_110 kd_1 rfl rfl rfl rfl ?_
        refine wp_iload 64 dX7_tie_62 rfl rfl ?_
        have c9 := H.1; replace H := H.2
        refine wp_iald 65 dX7_tie_64 rfl kd_6 c9 ?_
        refine wp_imul 66 dX7_tie_65 rfl ?_
        refine wp_iadd 67 dX7_tie_66 rfl ?_
        refine wp_aload_n 68 dX7_tie_67 rfl rfl ?_
        refine wp_getR 1 1 71 dX7_tie_68 rfl fl_X7_12 kd_0 rfl rfl rfl rfl ?_
        refine wp_getR 6 7 74 dX7_tie_71 rfl fl_X7_113 kd_1 rfl rfl rfl rfl ?_
        refine wp_iload 76 dX7_tie_74 rfl rfl ?_
        have c10 := H.1; replace H := H.2
        refine wp_iald 77 dX7_tie_76 rfl kd_7 c10 ?_
        refine wp_iadd 78 dX7_tie_77 rfl ?_
        refine wp_istore 80 dX7_tie_78 rfl (Nat.le_of_ble_eq_true rfl) rfl ?_
        refine wp_aload_n 81 dX7_tie_80 rfl rfl ?_
        refine wp_getR 1 1 84 dX7_tie_81 rfl fl_X7_12 kd_0 rfl rfl rfl rfl ?_
        refine wp_iload 86 dX7_tie_84 rfl rfl ?_
        refine wp_iload_n 87 dX7_tie_86 rfl rfl ?_
        refine wp_iload 89 dX7_tie_87 rfl rfl ?_
        have c11 := H.1; replace H := H.2
        refine wp_cV (d - 1) 3 [.int (((3 : Int32) * a1) + a2), .int a3, .int a4] [] 92 dX7_tie_89 rfl (lk_X7_116 rfl) (by omega) kd_1 rfl rfl rfl (Nat.le_of_ble_eq_true rfl) (sp_X2_tieAnew (by omega) kSea_is1 c11 (fun h12 eh12 => ?_))
        replace H := H h12 eh12
        refine wp_iload 94 dX7_tie_92 rfl rfl ?_
        exact wp_reti dX7_tie_94 rfl H
      · replace H := H.2 c7
        refine wp_aload_n 28 dX7_tie_27 rfl rfl ?_
        refine wp_iconst (1 : Int32) 29 dX7_tie_28 kiconst_1 rfl ?_
        have c13 := H.1; replace H := H.2
        refine wp_cV (d - 1) 1 [.int (1 : Int32)] [] 32 dX7_tie_29 rfl (lk_X7_62 rfl) (by omega) kd_0 rfl rfl rfl (Nat.le_of_ble_eq_true rfl) (sp_X7_error (by omega) c13 (fun h14 eh14 => ?_))
        replace H := H h14 eh14
        exact wp_reti dX7_tie_32 rfl H

theorem cg_X7_tie {G : kG} {d : Nat} {Q : Int32 → kM → Prop}  {a1 : Int32} {a2 : Int32} {a3 : Int32} {a4 : Int32} {h : kM} (hd : 5 ≤ d)  (H :
    (((kb ((0 ≤ a1 ∧ a1 < h 1 12) ∧ (0 ≤ a2 ∧ a2 < 3))) = 0 →
      (vp_in (1 : Int32) 7) ∧
      ∀ h3 : kM, h3 = kErr h 87 (1 : Int32) →
      Q (-1000000000 - (1 : Int32)) h3
    ) ∧ (¬ ((kb ((0 ≤ a1 ∧ a1 < h 1 12) ∧ (0 ≤ a2 ∧ a2 < 3))) = 0) →
      (((kb (0 ≤ a3 ∧ a3 < (70 : Int32))) = 0 →
        (vp_in (1 : Int32) 7) ∧
        ∀ h6 : kM, h6 = kErr h 87 (1 : Int32) →
        Q (-1000000000 - (1 : Int32)) h6
      ) ∧ (¬ ((kb (0 ≤ a3 ∧ a3 < (70 : Int32))) = 0) →
        ((¬ (kb (0 ≤ a4 ∧ a4 < (4 : Int32))) = 0 →
          (vp_in (((3 : Int32) * a1) + a2) 15) ∧
          (vp_in (((3 : Int32) * a1) + a2) 15) ∧
          (vp_in (((3 : Int32) * a1) + a2) 15) ∧
          (vp_in (((3 : Int32) * a1) + a2) 15) ∧
          ∀ h12 : kM, h12 = kTie h 1 (((3 : Int32) * a1) + a2) a3 a4 →
          Q ((((100 : Int32) * (h 8 ((((3 : Int32) * a1) + a2)).toNatClampNeg)) + ((10 : Int32) * (h 6 ((((3 : Int32) * a1) + a2)).toNatClampNeg))) + (h 7 ((((3 : Int32) * a1) + a2)).toNatClampNeg)) h12
        ) ∧ ((kb (0 ≤ a4 ∧ a4 < (4 : Int32))) = 0 →
          (vp_in (1 : Int32) 7) ∧
          ∀ h14 : kM, h14 = kErr h 87 (1 : Int32) →
          Q (-1000000000 - (1 : Int32)) h14
        ))
      ))
    ))) : Cal G d m_X7_tie [.ref 0, .int a1, .int a2, .int a3, .int a4] h Q :=
  Cal.of [.ref 0, .int a1, .int a2, .int a3, .int a4, .null, .null] (by decide +kernel) (Nat.le_of_ble_eq_true rfl) rfl (sg_X7_tie_0 hd  H)

theorem sg_X8_tie_0 {G : kG} {d : Nat} {Q : Int32 → kM → Prop}  {a1 : Int32} {a2 : Int32} {a3 : Int32} {a4 : Int32} {h : kM} (hd : 5 ≤ d)  (H :
    (((kb ((0 ≤ a1 ∧ a1 ≤ h 89 0 - 1) ∧ (0 ≤ a2 ∧ a2 ≤ 2))) = 0 →
      (vp_in (1 : Int32) 7) ∧
      ∀ h3 : kM, h3 = kErr h 93 (1 : Int32) →
      Q (-1000000000 - (1 : Int32)) h3
    ) ∧ (¬ ((kb ((0 ≤ a1 ∧ a1 ≤ h 89 0 - 1) ∧ (0 ≤ a2 ∧ a2 ≤ 2))) = 0) →
      (((kb ((0 : Int32) ≤ a3 ∧ a3 ≤ (69 : Int32))) = 0 →
        (vp_in (1 : Int32) 7) ∧
        ∀ h6 : kM, h6 = kErr h 93 (1 : Int32) →
        Q (-1000000000 - (1 : Int32)) h6
      ) ∧ (¬ ((kb ((0 : Int32) ≤ a3 ∧ a3 ≤ (69 : Int32))) = 0) →
        ((¬ (kb ((0 : Int32) ≤ a4 ∧ a4 ≤ (3 : Int32))) = 0 →
          (okI (((3 : Int32) * a1) + a2) (2 : Int32)) ∧
          (okI (((3 : Int32) * a1) + a2) (0 : Int32)) ∧
          (okI (((3 : Int32) * a1) + a2) (1 : Int32)) ∧
          (okI (((3 : Int32) * a1) + a2) 0 ∧ okI (((3 : Int32) * a1) + a2) 1 ∧ okI (((3 : Int32) * a1) + a2) 2 ∧ okI (((3 : Int32) * a1) + a2) 3) ∧
          ∀ h12 : kM, h12 = mTie h (((3 : Int32) * a1) + a2) a3 a4 →
          Q ((((100 : Int32) * (mIt (h 89) (((3 : Int32) * a1) + a2) (2 : Int32))) + ((10 : Int32) * (mIt (h 89) (((3 : Int32) * a1) + a2) (0 : Int32)))) + (mIt (h 89) (((3 : Int32) * a1) + a2) (1 : Int32))) h12
        ) ∧ ((kb ((0 : Int32) ≤ a4 ∧ a4 ≤ (3 : Int32))) = 0 →
          (vp_in (1 : Int32) 7) ∧
          ∀ h14 : kM, h14 = kErr h 93 (1 : Int32) →
          Q (-1000000000 - (1 : Int32)) h14
        ))
      ))
    ))) : Wp G d m_X8_tie (kEo G d m_X8_tie Q) 0 [.ref 88, .int a1, .int a2, .int a3, .int a4, .null, .null] [] h := by
  refine wp_aload_n 1 dX8_tie_0 rfl rfl ?_
  refine wp_iload_n 2 dX8_tie_1 rfl rfl ?_
  refine wp_iload_n 3 dX8_tie_2 rfl rfl ?_
  refine wp_cV (d - 1) 2 [.int a1, .int a2] [] 6 dX8_tie_3 rfl (lk_X8_164 rfl) (by omega) kd_88 rfl rfl rfl (Nat.le_of_ble_eq_true rfl) (sp_X8_isKnot (by omega)  ?_)
  refine wp_if_eq 29 9 dX8_tie_6 rfl rfl ⟨fun c1 => ?_, fun c1 => ?_⟩
  · replace H := H.1 c1
    refine wp_aload_n 30 dX8_tie_29 rfl rfl ?_
    refine wp_iconst (1 : Int32) 31 dX8_tie_30 kiconst_1 rfl ?_
    have c2 := H.1; replace H := H.2
    refine wp_cV (d - 1) 1 [.int (1 : Int32)] [] 34 dX8_tie_31 rfl (lk_X8_62 rfl) (by omega) kd_88 rfl rfl rfl (Nat.le_of_ble_eq_true rfl) (sp_X8_error (by omega) c2 (fun h3 eh3 => ?_))
    replace H := H h3 eh3
    exact wp_reti dX8_tie_34 rfl H
  · replace H := H.2 c1
    refine wp_iload_n 10 dX8_tie_9 rfl rfl ?_
    refine wp_iconst (0 : Int32) 11 dX8_tie_10 kiconst_0 rfl ?_
    refine wp_bipush (69 : Int32) 13 dX8_tie_11 kbipush_69 rfl ?_
    refine wp_cS (d - 1) 3 [.int a3, .int (0 : Int32), .int (69 : Int32)] [] 16 dX8_tie_13 rfl (lk_X8_50 rfl) (by omega) rfl rfl (Nat.le_of_ble_eq_true rfl) (sp_X8_in (by omega)  ?_)
    refine wp_if_eq 29 19 dX8_tie_16 rfl rfl ⟨fun c4 => ?_, fun c4 => ?_⟩
    · replace H := H.1 c4
      refine wp_aload_n 30 dX8_tie_29 rfl rfl ?_
      refine wp_iconst (1 : Int32) 31 dX8_tie_30 kiconst_1 rfl ?_
      have c5 := H.1; replace H := H.2
      refine wp_cV (d - 1) 1 [.int (1 : Int32)] [] 34 dX8_tie_31 rfl (lk_X8_62 rfl) (by omega) kd_88 rfl rfl rfl (Nat.le_of_ble_eq_true rfl) (sp_X8_error (by omega) c5 (fun h6 eh6 => ?_))
      replace H := H h6 eh6
      exact wp_reti dX8_tie_34 rfl H
    · replace H := H.2 c4
      refine wp_iload 21 dX8_tie_19 rfl rfl ?_
      refine wp_iconst (0 : Int32) 22 dX8_tie_21 kiconst_0 rfl ?_
      refine wp_iconst (3 : Int32) 23 dX8_tie_22 kiconst_3 rfl ?_
      refine wp_cS (d - 1) 3 [.int a4, .int (0 : Int32), .int (3 : Int32)] [] 26 dX8_tie_23 rfl (lk_X8_50 rfl) (by omega) rfl rfl (Nat.le_of_ble_eq_true rfl) (sp_X8_in (by omega)  ?_)
      refine wp_if_ne 35 29 dX8_tie_26 rfl rfl ⟨fun c7 => ?_, fun c7 => ?_⟩
      · replace H := H.1 c7
        refine wp_iconst (3 : Int32) 36 dX8_tie_35 kiconst_3 rfl ?_
        refine wp_iload_n 37 dX8_tie_36 rfl rfl ?_
        refine wp_imul 38 dX8_tie_37 rfl ?_
        refine wp_iload_n 39 dX8_tie_38 rfl rfl ?_
        refine wp_iadd 40 dX8_tie_39 rfl ?_
        refine wp_istore 42 dX8_tie_40 rfl (Nat.le_of_ble_eq_true rfl) rfl ?_
        refine wp_bipush (100 : Int32) 44 dX8_tie_42 kbipush_100 rfl ?_
        refine wp_aload_n 45 dX8_tie_44 rfl rfl ?_
        refine wp_iload 47 dX8_tie_45 rfl rfl ?_
        refine wp_iconst (2 : Int32) 48 dX8_tie_47 kiconst_2 rfl ?_
        have c8 := H.1; replace H := H.2
        refine wp_cV (d - 1) 2 [.int (((3 : Int32) * a1) + a2), .int (2 : Int32)] [.int (100 : Int32)] 51 dX8_tie_48 rfl (lk_X8_58 rfl) (by omega) kd_88 rfl rfl rfl (Nat.le_of_ble_eq_true rfl) (sp_X8_its (by omega) c8 ?_)
        refine wp_imul 52 dX8_tie_51 rfl ?_
        refine wp_bipush (10 : Int32) 54 dX8_tie_52 kbipush_10 rfl ?_
        refine wp_aload_n 55 dX8_tie_54 rfl rfl ?_
        refine wp_iload 57 dX8_tie_55 rfl rfl ?_
        refine wp_iconst (0 : Int32) 58 dX8_tie_57 kiconst_0 rfl ?_
        have c9 := H.1; replace H := H.2
        refine wp_cV (d - 1) 2 [.int (((3 : Int32) * a1) + a2), .int (0 : Int32)] [.int (10 : Int32), .int ((100 : Int32) * (mIt (h 89) (((3 : Int32) * a1) + a2) (2 : Int32)))] 61 dX8_tie_58 rfl (lk_X8_58 rfl) (by omega) kd_88 rfl rfl rfl (Nat.le_of_ble_eq_true rfl) (sp_X8_its (by omega) c9 ?_)
        refine wp_imul 62 dX8_tie_61 rfl ?_
        refine wp_iadd 63 dX8_tie_62 rfl ?_
        refine wp_aload_n 64 dX8_tie_63 rfl rfl ?_
        refine wp_iload 66 dX8_tie_64 rfl rfl ?_
        refine wp_iconst (1 : Int32) 67 dX8_tie_66 kiconst_1 rfl ?_
        have c10 := H.1; replace H := H.2
        refine wp_cV (d - 1) 2 [.int (((3 : Int32) * a1) + a2), .int (1 : Int32)] [.int (((100 : Int32) * (mIt (h 89) (((3 : Int32) * a1) + a2) (2 : Int32))) + ((10 : Int32) * (mIt (h 89) (((3 : Int32) * a1) + a2) (0 : Int32))))] 70 dX8_tie_67 rfl (lk_X8_58 rfl) (by omega) kd_88 rfl rfl rfl (Nat.le_of_ble_eq_true rfl) (sp_X8_its (by omega) c10 ?_)
        refine wp_iadd 71 dX8_tie_70 rfl ?_
        refine wp_istore 73 dX8_tie_71 rfl (Nat.le_of_ble_eq_true rfl) rfl ?_
        refine wp_aload_n 74 dX8_tie_73 rfl rfl ?_
        refine wp_iload 76 dX8_tie_74 rfl rfl ?_
        refine wp_iload_n 77 dX8_tie_76 rfl rfl ?_
        refine wp_iload 79 dX8_tie_77 rfl rfl ?_
        have c11 := H.1; replace H := H.2
        refine wp_cV (d - 1) 3 [.int (((3 : Int32) * a1) + a2), .int a3, .int a4] [] 82 dX8_tie_79 rfl (lk_X8_152 rfl) (by omega) kd_88 rfl rfl rfl (Nat.le_of_ble_eq_true rfl) (sp_X8_ties (by omega) c11 (fun h12 eh12 => ?_))
        replace H := H h12 eh12
        refine wp_iload 84 dX8_tie_82 rfl rfl ?_
        exact wp_reti dX8_tie_84 rfl H
      · replace H := H.2 c7
        refine wp_aload_n 30 dX8_tie_29 rfl rfl ?_
        refine wp_iconst (1 : Int32) 31 dX8_tie_30 kiconst_1 rfl ?_
        have c13 := H.1; replace H := H.2
        refine wp_cV (d - 1) 1 [.int (1 : Int32)] [] 34 dX8_tie_31 rfl (lk_X8_62 rfl) (by omega) kd_88 rfl rfl rfl (Nat.le_of_ble_eq_true rfl) (sp_X8_error (by omega) c13 (fun h14 eh14 => ?_))
        replace H := H h14 eh14
        exact wp_reti dX8_tie_34 rfl H

theorem cg_X8_tie {G : kG} {d : Nat} {Q : Int32 → kM → Prop}  {a1 : Int32} {a2 : Int32} {a3 : Int32} {a4 : Int32} {h : kM} (hd : 5 ≤ d)  (H :
    (((kb ((0 ≤ a1 ∧ a1 ≤ h 89 0 - 1) ∧ (0 ≤ a2 ∧ a2 ≤ 2))) = 0 →
      (vp_in (1 : Int32) 7) ∧
      ∀ h3 : kM, h3 = kErr h 93 (1 : Int32) →
      Q (-1000000000 - (1 : Int32)) h3
    ) ∧ (¬ ((kb ((0 ≤ a1 ∧ a1 ≤ h 89 0 - 1) ∧ (0 ≤ a2 ∧ a2 ≤ 2))) = 0) →
      (((kb ((0 : Int32) ≤ a3 ∧ a3 ≤ (69 : Int32))) = 0 →
        (vp_in (1 : Int32) 7) ∧
        ∀ h6 : kM, h6 = kErr h 93 (1 : Int32) →
        Q (-1000000000 - (1 : Int32)) h6
      ) ∧ (¬ ((kb ((0 : Int32) ≤ a3 ∧ a3 ≤ (69 : Int32))) = 0) →
        ((¬ (kb ((0 : Int32) ≤ a4 ∧ a4 ≤ (3 : Int32))) = 0 →
          (okI (((3 : Int32) * a1) + a2) (2 : Int32)) ∧
          (okI (((3 : Int32) * a1) + a2) (0 : Int32)) ∧
          (okI (((3 : Int32) * a1) + a2) (1 : Int32)) ∧
          (okI (((3 : Int32) * a1) + a2) 0 ∧ okI (((3 : Int32) * a1) + a2) 1 ∧ okI (((3 : Int32) * a1) + a2) 2 ∧ okI (((3 : Int32) * a1) + a2) 3) ∧
          ∀ h12 : kM, h12 = mTie h (((3 : Int32) * a1) + a2) a3 a4 →
          Q ((((100 : Int32) * (mIt (h 89) (((3 : Int32) * a1) + a2) (2 : Int32))) + ((10 : Int32) * (mIt (h 89) (((3 : Int32) * a1) + a2) (0 : Int32)))) + (mIt (h 89) (((3 : Int32) * a1) + a2) (1 : Int32))) h12
        ) ∧ ((kb ((0 : Int32) ≤ a4 ∧ a4 ≤ (3 : Int32))) = 0 →
          (vp_in (1 : Int32) 7) ∧
          ∀ h14 : kM, h14 = kErr h 93 (1 : Int32) →
          Q (-1000000000 - (1 : Int32)) h14
        ))
      ))
    ))) : Cal G d m_X8_tie [.ref 88, .int a1, .int a2, .int a3, .int a4] h Q :=
  Cal.of [.ref 88, .int a1, .int a2, .int a3, .int a4, .null, .null] (by decide +kernel) (Nat.le_of_ble_eq_true rfl) rfl (sg_X8_tie_0 hd  H)

theorem kRel.n {h : kM} (hR : kRel h) : ∃ n H f w, kSRn (kVw h 1) (h 89) n H f w ∧ H ≤ 9999 := hR.1
/-- both tell the same error -/
theorem kErrs {h : kM} (hR : kRel h) {e : Int32} {x : Int32} : ∀ h1, h1 = kErr h 87 e → ∀ h2, h2 = kErr h1 93 e → x = x ∧ kRel h2 := fun h1 e1 h2 e2 => ⟨rfl, by rw [e2, e1]; exact hR.err e⟩
theorem kin7 {n : Nat} (hn : n < 7) : vp_in (nI n) 7 := vp_in_nI hn (by decide)
/-- the sea now has changed alone, within its own cells and the model's row -/
theorem kRel.now {h h' : kM} (hR : kRel h) (ho : ∀ a, a ≠ 89 → (a = 0 ∨ 18 ≤ a) → h' a = h a) (hs : kSR (kVw h' 1) (h' 89)) : kRel h' :=
  hR.sea (fun a h1 _ _ _ h4 => ho a h4 (Or.inr h1)) (by rw [ho 0 (by decide) (by decide)]) (by rw [ho 76 (by decide) (by decide)]) (by rw [ho 88 (by decide) (by decide)]) (by rw [ho 88 (by decide) (by decide)]) hs
theorem i63 {x : Int32} : (0 ≤ x ∧ x ≤ 63) ↔ (0 ≤ x ∧ x < 64) := iM (x := x) (n := 64) (by decide)
theorem i1 {x : Int32} : (0 ≤ x ∧ x ≤ 1) ↔ (0 ≤ x ∧ x < 2) := iM (x := x) (n := 2) (by decide)
theorem i3 {x : Int32} : (0 ≤ x ∧ x ≤ 3) ↔ (0 ≤ x ∧ x < 4) := iM (x := x) (n := 4) (by decide)
theorem i2 {x : Int32} : (0 ≤ x ∧ x ≤ 2) ↔ (0 ≤ x ∧ x < 3) := iM (x := x) (n := 3) (by decide)
theorem i69 {x : Int32} : (0 ≤ x ∧ x ≤ 69) ↔ (0 ≤ x ∧ x < 70) := iM (x := x) (n := 70) (by decide)
theorem i6 {x : Int32} : (0 ≤ x ∧ x ≤ 6) ↔ (0 ≤ x ∧ x < 7) := iM (x := x) (n := 7) (by decide)
theorem kk2 {h h1 h2 : kM} {k j i : Nat} {x y : Int32} (hk : k ≠ 89) (e1 : h1 = kU h k j x) (e2 : h2 = kU h1 89 i y) : h2 89 = upd (h 89) i y ∧ h2 k = upd (h k) j x ∧ (∀ a, a ≠ 89 → a ≠ k → h2 a = h a) := by
  have e189 : h1 89 = h 89 := by rw [e1, kU_ne (fun q => hk q.symm)]
  refine ⟨by rw [e2, kU_eq, e189], by rw [e2, kU_ne hk, e1, kU_eq], fun a x1 x2 => by rw [e2, kU_ne x1, e1, kU_ne x2]⟩
theorem i2p {p : Nat} (hp : p < 64) : (2 : Int32) + nI p = nI (2 + p) := nI_add 2 p
theorem i8p (p : Nat) : (8 : Int32) + nI p = nI (8 + p) := nI_add 8 p
theorem ix72 (p w : Nat) : (72 : Int32) + 3 * nI p + nI w = nI (72 + 3 * p + w) := by
  show nI 72 + nI 3 * nI p + nI w = _
  rw [pk_mul, nI_add, nI_add]
theorem ix87 (k w : Nat) : (87 : Int32) + 4 * nI k + nI w = nI (87 + 4 * k + w) := by
  show nI 87 + nI 4 * nI k + nI w = _
  rw [pk_mul, nI_add, nI_add]
theorem ix3 (p k : Nat) : (3 : Int32) * nI p + nI k = nI (3 * p + k) := by
  show nI 3 * nI p + nI k = _
  rw [pk_mul, nI_add]
theorem okO_n {p w : Nat} (hp : p < 5) (hw : w < 3) : okO (nI p) (nI w) := by
  unfold okO
  rw [ix72]
  exact vp_in_nI (by omega) (by decide)
theorem okI_n {k w : Nat} (hk : k < 15) (hw : w < 4) : okI (nI k) (nI w) := by
  unfold okI
  rw [ix87]
  exact vp_in_nI (by omega) (by decide)
theorem mOf_n {g : Nat → Int32} {p w : Nat} (hp : p < 5) (hw : w < 3) : mOf g (nI p) (nI w) = g (72 + 3 * p + w) := by
  unfold mOf
  rw [ix72, nI_clamp (by omega)]
theorem mIt_n {g : Nat → Int32} {k w : Nat} (hk : k < 15) (hw : w < 4) : mIt g (nI k) (nI w) = g (87 + 4 * k + w) := by
  unfold mIt
  rw [ix87, nI_clamp (by omega)]
theorem mLay_n {h : kM} {p w : Nat} {x : Int32} (hp : p < 5) (hw : w < 3) : mLay h (nI p) (nI w) x = kU h 89 (72 + 3 * p + w) x := by
  unfold mLay
  rw [ix72, nI_clamp (by omega)]
/-- land -/
theorem st_land (hd : 4 ≤ d) (hR : kRel h) (a1 a2 : Int32) : kStp G d m_X7_land m_X8_land [.int a1, .int a2] h := by
  by_cases hc : 0 ≤ a1 ∧ a1 < 64
  · by_cases hv : 0 ≤ a2 ∧ a2 < 2
    · obtain ⟨c, hc64, rfl⟩ := iI (n := 64) (by decide) hc.1 hc.2
      have hcl : (nI c).toNatClampNeg = c := nI_clamp (by omega)
      have hin : vp_in (nI c) 64 := vp_in_nI hc64 (by decide)
      refine cg_X7_land hd ⟨fun q => absurd hc (kb_0.mp q), fun _ => ⟨fun _ => ⟨hin, hin, fun h1 e1 => ?_⟩, fun q => absurd hv (kb_0.mp q)⟩⟩
      have hcl8 : ((8 : Int32) + nI c).toNatClampNeg = 8 + c := by rw [i8p]; exact nI_clamp (by omega)
      refine cg_X8_land hd ⟨fun q => absurd (i63.mpr hc) (kb_0.mp q), fun _ => ⟨fun q => absurd (i1.mpr hv) (kb_0.mp q), fun _ => ⟨by rw [i8p]; exact vp_in_nI (by omega) (by decide), fun h2 e2 => ?_⟩⟩⟩
      rw [hcl] at e1 ⊢
      rw [hcl8] at e2 ⊢
      obtain ⟨n, H, f, w, hS, hH⟩ := hR.n
      obtain ⟨k1, k2, k3⟩ := kk2 (by decide) e1 e2
      have s7 := hS.2.2.2.2.2.2.1
      refine ⟨?_, hR.now (fun a x1 x2 => k3 a x1 (by omega)) ⟨n, H, f, w, hS.re_la (fun a x0 x1 x2 x3 => k3 (1 + a) (by omega) (by omega)) (fun s _ => by show h2 1 s = h 1 s; rw [k3 1 (by decide) (by decide)]) (fun j hj => by rw [k1, pk_un (by omega)]) (fun i hi => ?_), hH⟩⟩
      · rw [show h1 89 = h 89 by rw [e1, kU_ne (by decide)]]
        exact s7 c hc64
      · show h2 2 i = _
        rw [k2, k1]
        by_cases q : i = c
        · subst q
          rw [pk_us, pk_us]
        · rw [pk_un q, pk_un (by omega)]
          exact s7 i hi
    · refine cg_X7_land hd ⟨fun q => absurd hc (kb_0.mp q), fun _ => ⟨fun q => absurd (kb_n0.mp q) hv, fun _ => ⟨kin7 (n := 1) (by decide), fun h1 e1 => ?_⟩⟩⟩
      exact cg_X8_land hd ⟨fun q => absurd (i63.mpr hc) (kb_0.mp q), fun _ => ⟨fun _ => ⟨kin7 (n := 1) (by decide), kErrs hR h1 e1⟩, fun q => absurd (i1.mp (kb_n0.mp q)) hv⟩⟩
  · refine cg_X7_land hd ⟨fun _ => ⟨kin7 (n := 1) (by decide), fun h1 e1 => ?_⟩, fun q => absurd (kb_n0.mp q) hc⟩
    exact cg_X8_land hd ⟨fun _ => ⟨kin7 (n := 1) (by decide), kErrs hR h1 e1⟩, fun q => absurd (i63.mp (kb_n0.mp q)) hc⟩
/-- drift -/
theorem st_drift (hd : 4 ≤ d) (hR : kRel h) (a1 a2 : Int32) : kStp G d m_X7_drift m_X8_drift [.int a1, .int a2] h := by
  by_cases hc : 0 ≤ a1 ∧ a1 < 2
  · by_cases hv : (-9) ≤ a2 ∧ a2 ≤ 9
    · obtain ⟨c, hc2, rfl⟩ := iI (n := 2) (by decide) hc.1 hc.2
      have hcl : (nI c).toNatClampNeg = c := nI_clamp (by omega)
      have hin : vp_in (nI c) 2 := vp_in_nI hc2 (by decide)
      refine cg_X7_drift hd ⟨fun q => absurd hc (kb_0.mp q), fun _ => ⟨fun _ => ⟨hin, hin, fun h1 e1 => ?_⟩, fun q => absurd hv (kb_0.mp q)⟩⟩
      have hcl8 : ((2 : Int32) + nI c).toNatClampNeg = 2 + c := by rw [i2p (by omega)]; exact nI_clamp (by omega)
      refine cg_X8_drift hd ⟨fun q => absurd (i1.mpr hc) (kb_0.mp q), fun _ => ⟨fun q => absurd hv (kb_0.mp q), fun _ => ⟨by rw [i2p (by omega)]; exact vp_in_nI (by omega) (by decide), fun h2 e2 => ?_⟩⟩⟩
      rw [hcl] at e1 ⊢
      rw [hcl8] at e2 ⊢
      obtain ⟨n, H, f, w, hS, hH⟩ := hR.n
      obtain ⟨k1, k2, k3⟩ := kk2 (by decide) e1 e2
      have s6 := hS.2.2.2.2.2.1
      refine ⟨?_, hR.now (fun a x1 x2 => k3 a x1 (by omega)) ⟨n, H, f, w, hS.re_dr (fun a x0 x1 x2 x3 => k3 (1 + a) (by omega) (by omega)) (fun s _ => by show h2 1 s = h 1 s; rw [k3 1 (by decide) (by decide)]) (fun j hj => by rw [k1, pk_un (by omega)]) (fun i hi => ?_), hH⟩⟩
      · rw [show h1 89 = h 89 by rw [e1, kU_ne (by decide)]]
        exact s6 c hc2
      · show h2 3 i = _
        rw [k2, k1]
        by_cases q : i = c
        · subst q
          rw [pk_us, pk_us]
        · rw [pk_un q, pk_un (by omega)]
          exact s6 i hi
    · refine cg_X7_drift hd ⟨fun q => absurd hc (kb_0.mp q), fun _ => ⟨fun q => absurd (kb_n0.mp q) hv, fun _ => ⟨kin7 (n := 1) (by decide), fun h1 e1 => ?_⟩⟩⟩
      exact cg_X8_drift hd ⟨fun q => absurd (i1.mpr hc) (kb_0.mp q), fun _ => ⟨fun _ => ⟨kin7 (n := 1) (by decide), kErrs hR h1 e1⟩, fun q => absurd (kb_n0.mp q) hv⟩⟩
  · refine cg_X7_drift hd ⟨fun _ => ⟨kin7 (n := 1) (by decide), fun h1 e1 => ?_⟩, fun q => absurd (kb_n0.mp q) hc⟩
    exact cg_X8_drift hd ⟨fun _ => ⟨kin7 (n := 1) (by decide), kErrs hR h1 e1⟩, fun q => absurd (i1.mp (kb_n0.mp q)) hc⟩
/-- seed -/
theorem st_seed (hd : 4 ≤ d) (hR : kRel h) (a1 : Int32) : kStp G d m_X7_seed m_X8_seed [.int a1] h := by
  refine cg_X7_seed hd (fun h1 e1 => cg_X8_seed hd ⟨vp_in_nI (n := 6) (by decide) (by decide), fun h2 e2 => ?_⟩)
  have e2 : h2 = kU h1 89 6 a1 := e2
  obtain ⟨n, H, f, w, hS, hH⟩ := hR.n
  obtain ⟨k1, k2, k3⟩ := kk2 (by decide) e1 e2
  have s5 := hS.2.2.2.2.1
  refine ⟨?_, hR.now (fun a x1 x2 => k3 a x1 (by omega)) ⟨n, H, f, w, hS.re_z (fun a x0 x1 x2 => k3 (1 + a) (by omega) (by omega)) (fun s _ hs => by show h2 1 s = h 1 s; rw [k2, pk_un hs]) (fun j hj => by rw [k1, pk_un (by omega)]) ?_, hH⟩⟩
  · show h 1 16 = h1 89 6
    rw [show h1 89 = h 89 by rw [e1, kU_ne (by decide)]]
    exact s5
  · show h2 1 16 = h2 89 6
    rw [k2, k1, pk_us, pk_us]
/-- told -/
theorem st_told (hd : 4 ≤ d) (hR : kRel h) (a1 : Int32) : kStp G d m_X7_told m_X8_told [.int a1] h := by
  by_cases hc : 1 ≤ a1 ∧ a1 ≤ 6
  · have hin : vp_in a1 7 := in_of 6 (by decide) (Int32.le_trans (by decide) hc.1) hc.2
    refine cg_X7_told hd ⟨fun _ => ⟨hin, ?_⟩, fun q => absurd hc (kb_0.mp q)⟩
    refine cg_X8_told hd ⟨fun q => absurd hc (kb_0.mp q), fun _ => ⟨hin, hR.2.2.2.1 _ ?_, hR⟩⟩
    exact Nat.not_le.mp fun q => hin (Or.inr q)
  · refine cg_X7_told hd ⟨fun q => absurd (kb_n0.mp q) hc, fun _ => ⟨kin7 (n := 1) (by decide), fun h1 e1 => ?_⟩⟩
    exact cg_X8_told hd ⟨fun _ => ⟨kin7 (n := 1) (by decide), kErrs hR h1 e1⟩, fun q => absurd (kb_n0.mp q) hc⟩
/-- body -/
theorem st_body (hd : 4 ≤ d) (hR : kRel h) (a1 : Int32) : kStp G d m_X7_body m_X8_body [.int a1] h := by
  obtain ⟨n, hn, t1, t2, t3⟩ := hR.2.2.2.2.1
  by_cases hc : 0 ≤ a1 ∧ a1 < nI n
  · obtain ⟨c, hcn, rfl⟩ := iI (n := n) (by omega) hc.1 hc.2
    have hin : vp_in (nI c) 30 := vp_in_nI (by omega) (by decide)
    have hcl : (nI c).toNatClampNeg = c := nI_clamp (by omega)
    refine cg_X7_body hd ⟨fun _ => ⟨hin, ?_⟩, fun q => absurd (by rw [t1]; exact hc) (kb_0.mp q)⟩
    refine cg_X8_body hd ⟨fun q => absurd (by rw [t2]; exact (iM (by omega)).mpr hc) (kb_0.mp q), fun _ => ⟨hin, ?_, hR⟩⟩
    rw [hcl]
    exact t3 c hcn
  · refine cg_X7_body hd ⟨fun q => absurd (kb_n0.mp q) (by rw [t1]; exact hc), fun _ => ⟨kin7 (n := 2) (by decide), fun h1 e1 => ?_⟩⟩
    refine cg_X8_body hd ⟨fun _ => ⟨kin7 (n := 2) (by decide), kErrs hR h1 e1⟩, fun q => absurd (kb_n0.mp q) ?_⟩
    rw [e1, kErr_ne (by decide), t2]
    exact fun q => hc ((iM (by omega)).mp q)
/-- tell -/
theorem st_tell (hd : 4 ≤ d) (hR : kRel h) (a1 : Int32) : kStp G d m_X7_tell m_X8_tell [.int a1] h := by
  obtain ⟨n, H, f, w, hS, hH⟩ := hR.n
  obtain ⟨hw, w1, w2⟩ := hS.2.2.2.1
  have w1 : h 1 15 = nI w := w1
  have s13 := hS.2.2.2.2.2.2.2.2.2.2.2.2
  by_cases hc : w < 24
  · have hcl : (nI w).toNatClampNeg = w := nI_clamp (by omega)
    refine cg_X7_tell hd ⟨fun _ => ⟨by rw [w1]; exact vp_in_nI hc (by decide), fun h1 e1 h2 e2 => ?_⟩, fun q => absurd (by rw [w1]; exact nI_lt hc (by decide)) q⟩
    rw [w1, hcl] at e1
    have e115 : h1 1 15 = nI w := by rw [e1, kU_ne (by decide), w1]
    rw [e115, nI_1] at e2
    have e289 : h2 89 = h 89 := by rw [e2, kU_ne (by decide), e1, kU_ne (by decide)]
    have x5 : h2 89 5 = nI w := by rw [e289]; exact w2
    have hi : (457 : Int32) + nI w = nI (457 + w) := nI_add 457 w
    have hne : ¬ h2 89 5 = 24 := by
      rw [x5]
      intro z
      have z2 := (nI_eq (a := w) (b := 24) (by omega) (by decide)).mp z
      omega
    refine cg_X8_tell hd ⟨fun _ => ⟨by rw [x5, hi]; exact vp_in_nI (by omega) (by decide), fun h3 e3 h4 e4 => ?_⟩, fun q => absurd q hne⟩
    rw [x5, hi, nI_clamp (by omega)] at e3
    have e35 : h3 89 5 = nI w := by rw [e3, kU_eq, pk_un (by omega)]; exact x5
    rw [e35, nI_1] at e4
    have g4 : h4 89 = upd (upd (h 89) (457 + w) a1) 5 (nI (w + 1)) := by rw [e4, kU_eq, e3, kU_eq, e289]
    have c11 : h4 11 = upd (h 11) w a1 := by rw [e4, kU_ne (by decide), e3, kU_ne (by decide), e2, kU_ne (by decide), e1, kU_eq]
    have c1 : h4 1 = upd (h 1) 15 (nI (w + 1)) := by rw [e4, kU_ne (by decide), e3, kU_ne (by decide), e2, kU_eq, e1, kU_ne (by decide)]
    have co : ∀ a, a ≠ 89 → a ≠ 11 → a ≠ 1 → h4 a = h a := fun a x1 x2 x3 => by rw [e4, kU_ne x1, e3, kU_ne x1, e2, kU_ne x3, e1, kU_ne x2]
    refine ⟨?_, hR.now (fun a x1 x2 => co a x1 (by omega) (by omega)) ⟨n, H, f, w + 1, hS.re_wa (fun a x0 x1 x2 x3 => co (1 + a) (by omega) (by omega) (by omega)) (fun s _ hs => by show h4 1 s = h 1 s; rw [c1, pk_un hs]) (fun j hj hj2 => by rw [g4, pk_un (by omega), pk_un (by omega)]) ⟨by omega, by show h4 1 15 = _; rw [c1, pk_us], by rw [g4, pk_us]⟩ (fun i hi2 => ?_), hH⟩⟩
    · rw [e2, kU_eq, pk_us, g4, pk_us]
    · show h4 11 i = _
      rw [c11, g4, pk_un (j := 457 + i) (k := 5) (by omega)]
      by_cases q : i = w
      · subst q
        rw [pk_us, pk_us]
      · rw [pk_un q, pk_un (by omega)]
        exact s13 i (by omega)
  · have hw24 : w = 24 := by omega
    subst hw24
    refine cg_X7_tell hd ⟨fun q => absurd q (by rw [w1]; decide), fun _ => ⟨kin7 (n := 4) (by decide), fun h1 e1 => ?_⟩⟩
    have x5 : h1 89 5 = 24 := by rw [e1, kErr_ne (by decide)]; exact w2
    exact cg_X8_tell hd ⟨fun q => absurd x5 q, fun _ => ⟨kin7 (n := 4) (by decide), kErrs hR h1 e1⟩⟩
/-- a ship's place in one number, in two -/
theorem iR64 {s c : Nat} (hs : s < 3) (hc : c < 64) : iR (nI (64 * s + c)) 64 = nI c := by
  have h1 : iR (nI (64 * s + c)) (nI 64) = nI ((64 * s + c) % 64) := pk_rem (by omega) (by decide) (by decide)
  have h2 : (64 * s + c) % 64 = c := by omega
  rw [h2] at h1
  exact h1
theorem iD64 {s c : Nat} (hs : s < 3) (hc : c < 64) : nI (64 * s + c) / 64 = nI s := by
  have h1 : nI (64 * s + c) / nI 64 = nI ((64 * s + c) / 64) := pk_div (by omega) (by decide) (by decide)
  have h2 : (64 * s + c) / 64 = s := by omega
  rw [h2] at h1
  exact h1
theorem kLaid_n {c q : Nat} (hc : c < 64) (hq : q < 64) : kLaid (nI c) (nI q) = nI (64 * (if c = q then 2 else 0) + c) := by
  unfold kLaid
  by_cases e : c = q
  · rw [if_pos e, if_pos (by rw [e])]
    exact nI_add 128 c
  · rw [if_neg e, if_neg (fun z => e ((nI_eq (by omega) (by omega)).mp z))]
    exact nI_add 0 c
/-- bring -/
theorem st_bring (hd : 4 ≤ d) (hR : kRel h) (a1 a2 : Int32) : kStp G d m_X7_bring m_X8_bring [.int a1, .int a2] h := by
  obtain ⟨n, H, f, w, hS, hH⟩ := hR.n
  obtain ⟨hn, n1, n2⟩ := hS.1
  have n1 : h 1 12 = nI n := n1
  by_cases hc : 0 ≤ a1 ∧ a1 < nI n
  · by_cases hv : 0 ≤ a2 ∧ a2 < 64
    · obtain ⟨p, hp, rfl⟩ := iI (n := n) (by omega) hc.1 hc.2
      obtain ⟨c, hc64, rfl⟩ := iI (n := 64) (by decide) hv.1 hv.2
      have hin : vp_in (nI p) 5 := vp_in_nI (by omega) (by decide)
      have hcl : (nI p).toNatClampNeg = p := nI_clamp (by omega)
      obtain ⟨c0, s0, q0, z1, z2, z3, z4, z5, z6, z7, z8⟩ := hS.2.2.2.2.2.2.2.1 p hp
      have z4 : h 4 p = nI (64 * s0 + c0) := z4
      have z7 : h 5 p = nI q0 := z7
      refine cg_X7_bring hd ⟨fun q => absurd (by rw [n1]; exact hc) (kb_0.mp q), fun _ => ⟨fun _ => ⟨hin, hin, hin, fun h1 e1 => ?_⟩, fun q => absurd hv (kb_0.mp q)⟩⟩
      rw [hcl, z7, kLaid_n hc64 z3] at e1
      rw [hcl, z4, iR64 z2 z1]
      have e189 : h1 89 = h 89 := by rw [e1, kU_ne (by decide)]
      have o0 := okO_n (p := p) (w := 0) (by omega) (by decide)
      refine cg_X8_bring hd ⟨fun q => absurd (by rw [e189, n2]; exact (iM (by omega)).mpr hc) (kb_0.mp q), fun _ => ⟨fun _ => ⟨o0, ⟨o0, okO_n (p := p) (w := 1) (by omega) (by decide), okO_n (p := p) (w := 2) (by omega) (by decide)⟩, fun h2 e2 => ?_⟩, fun q => absurd (i63.mpr hv) (kb_0.mp q)⟩⟩
      have ml0 : ∀ g x, mLay g (nI p) 0 x = kU g 89 (72 + 3 * p + 0) x := fun g x => mLay_n (w := 0) (by omega) (by decide)
      have ml2 : ∀ g x, mLay g (nI p) 2 x = kU g 89 (72 + 3 * p + 2) x := fun g x => mLay_n (w := 2) (by omega) (by decide)
      have mo0 : ∀ g, mOf g (nI p) 0 = g (72 + 3 * p + 0) := fun g => mOf_n (w := 0) (by omega) (by decide)
      have mo1 : ∀ g, mOf g (nI p) 1 = g (72 + 3 * p + 1) := fun g => mOf_n (w := 1) (by omega) (by decide)
      unfold mBring at e2
      rw [ml0, ml2, mo1, kU_eq, pk_un (by omega), e189, show 72 + 3 * p + 1 = 73 + 3 * p by omega, z8] at e2
      have g2 : h2 89 = upd (upd (h 89) (72 + 3 * p + 0) (nI c)) (72 + 3 * p + 2) (if nI c = nI q0 then 2 else 0) := by rw [e2, kU_eq, kU_eq, e189]
      have c4 : h2 4 = upd (h 4) p (nI (64 * (if c = q0 then 2 else 0) + c)) := by rw [e2, kU_ne (by decide), kU_ne (by decide), e1, kU_eq]
      have co : ∀ a, a ≠ 89 → a ≠ 4 → h2 a = h a := fun a x1 x2 => by rw [e2, kU_ne x1, kU_ne x1, e1, kU_ne x2]
      refine ⟨?_, hR.now (fun a x1 x2 => co a x1 (by omega)) ⟨n, H, f, w, hS.re_sh (fun a x0 x1 x2 x3 x4 => co (1 + a) (by omega) (by omega)) (fun s _ => by show h2 1 s = h 1 s; rw [co 1 (by decide) (by decide)]) (fun j hj => by rw [g2, pk_un (by omega), pk_un (by omega)]) (fun r hr => ?_), hH⟩⟩
      · rw [mo0, e189, show 72 + 3 * p + 0 = 72 + 3 * p by omega, z5]
      · have hr5 : r < 5 := by omega
        by_cases e : r = p
        · subst e
          refine ⟨c, if c = q0 then 2 else 0, q0, hc64, by split <;> decide, z3, ?_, ?_, ?_, ?_, ?_⟩
          · show h2 4 r = _
            rw [c4, pk_us]
          · rw [g2, pk_un (by omega), show 72 + 3 * r + 0 = 72 + 3 * r by omega, pk_us]
          · rw [g2, show 74 + 3 * r = 72 + 3 * r + 2 by omega, pk_us]
            by_cases e : c = q0
            · rw [if_pos e, if_pos (by rw [e])]
              rfl
            · rw [if_neg e, if_neg (fun z => e ((nI_eq (by omega) (by omega)).mp z))]
              rfl
          · show h2 5 r = _
            rw [co 5 (by decide) (by decide)]
            exact z7
          · rw [g2, pk_un (by omega), pk_un (by omega)]
            exact z8
        · obtain ⟨c1, s1, q1, y1, y2, y3, y4, y5, y6, y7, y8⟩ := hS.2.2.2.2.2.2.2.1 r hr
          refine ⟨c1, s1, q1, y1, y2, y3, ?_, ?_, ?_, ?_, ?_⟩
          · show h2 4 r = _
            rw [c4, pk_un e]
            exact y4
          · rw [g2, pk_un (by omega), pk_un (by omega)]
            exact y5
          · rw [g2, pk_un (by omega), pk_un (by omega)]
            exact y6
          · show h2 5 r = _
            rw [co 5 (by decide) (by decide)]
            exact y7
          · rw [g2, pk_un (by omega), pk_un (by omega)]
            exact y8
    · refine cg_X7_bring hd ⟨fun q => absurd (by rw [n1]; exact hc) (kb_0.mp q), fun _ => ⟨fun q => absurd (kb_n0.mp q) hv, fun _ => ⟨kin7 (n := 1) (by decide), fun h1 e1 => ?_⟩⟩⟩
      have x0 : h1 89 0 = nI n := by rw [e1, kErr_ne (by decide)]; exact n2
      exact cg_X8_bring hd ⟨fun q => absurd (by rw [x0]; exact (iM (by omega)).mpr hc) (kb_0.mp q), fun _ => ⟨fun q => absurd (i63.mp (kb_n0.mp q)) hv, fun _ => ⟨kin7 (n := 1) (by decide), kErrs hR h1 e1⟩⟩⟩
  · refine cg_X7_bring hd ⟨fun _ => ⟨kin7 (n := 1) (by decide), fun h1 e1 => ?_⟩, fun q => absurd (kb_n0.mp q) (by rw [n1]; exact hc)⟩
    have x0 : h1 89 0 = nI n := by rw [e1, kErr_ne (by decide)]; exact n2
    exact cg_X8_bring hd ⟨fun _ => ⟨kin7 (n := 1) (by decide), kErrs hR h1 e1⟩, fun q => absurd ((iM (by omega)).mp (by have := kb_n0.mp q; rw [x0] at this; exact this)) hc⟩
end StepsA

