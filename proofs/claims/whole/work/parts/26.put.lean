/-! put, move, lands, judge -/
section Put
variable {G : kG} {d : Nat} {Q : Int32 → kM → Prop} {h : kM}
theorem sg_X4_write_0 {G : kG} {d : Nat} {Q : Int32 → kM → Prop} {q : Nat} {a1 : Int32} {a2 : Int32} {h : kM} (hd : 2 ≤ d) (k_q : kSht q) (H :
    (((kb (0 ≤ a1 ∧ a1 < (h q 2))) = 0 →
      Q 0 h
    ) ∧ (¬ ((kb (0 ≤ a1 ∧ a1 < (h q 2))) = 0) →
      ((¬ (h q 1) = (32 : Int32) →
        (vp_in a1 24) ∧
        ∀ h4 : kM, h4 = kU h (q + 1) (a1).toNatClampNeg (a2 &&& (((1 : Int32) <<< ((h q 1) &&& 31)) - (1 : Int32))) →
        Q 0 h4
      ) ∧ ((h q 1) = (32 : Int32) →
        (vp_in a1 24) ∧
        ∀ h6 : kM, h6 = kU h (q + 1) (a1).toNatClampNeg a2 →
        Q 0 h6
      ))
    ))) : Wp G d m_X4_write (kEo G d m_X4_write Q) 0 [.ref q, .int a1, .int a2] [] h := by
  refine wp_iload_n 1 dX4_write_0 rfl rfl ?_
  refine wp_aload_n 2 dX4_write_1 rfl rfl ?_
  refine wp_getI 5 dX4_write_2 rfl fl_X4_23 (kSht_0 k_q) rfl ?_
  refine wp_cN (d - 1) 2 [.int a1, .int (h q 2)] [] 8 dX4_write_5 rfl (lk_X4_26 rfl) (by omega) rfl rfl (Nat.le_of_ble_eq_true rfl) (sp_X7_within (by omega)  ?_)
  refine wp_if_eq 40 11 dX4_write_8 rfl rfl ⟨fun c1 => ?_, fun c1 => ?_⟩
  · replace H := H.1 c1
    exact wp_retv dX4_write_40 rfl H
  · replace H := H.2 c1
    refine wp_aload_n 12 dX4_write_11 rfl rfl ?_
    refine wp_getR 1 (q + 1) 15 dX4_write_12 rfl fl_X4_9 (kSht_0 k_q) rfl rfl rfl rfl ?_
    refine wp_iload_n 16 dX4_write_15 rfl rfl ?_
    refine wp_aload_n 17 dX4_write_16 rfl rfl ?_
    refine wp_getI 20 dX4_write_17 rfl fl_X4_15 (kSht_0 k_q) rfl ?_
    refine wp_bipush (32 : Int32) 22 dX4_write_20 kbipush_32 rfl ?_
    refine wp_icmp_ne 29 25 dX4_write_22 rfl rfl ⟨fun c2 => ?_, fun c2 => ?_⟩
    · replace H := H.1 c2
      refine wp_iload_n 30 dX4_write_29 rfl rfl ?_
      refine wp_iconst (1 : Int32) 31 dX4_write_30 kiconst_1 rfl ?_
      refine wp_aload_n 32 dX4_write_31 rfl rfl ?_
      refine wp_getI 35 dX4_write_32 rfl fl_X4_15 (kSht_0 k_q) rfl ?_
      refine wp_ishl 36 dX4_write_35 rfl ?_
      refine wp_iconst (1 : Int32) 37 dX4_write_36 kiconst_1 rfl ?_
      refine wp_isub 38 dX4_write_37 rfl ?_
      refine wp_iand 39 dX4_write_38 rfl ?_
      have c3 := H.1; replace H := H.2
      refine wp_iast 40 dX4_write_39 rfl (kSht_1 k_q) c3 ?_
      refine wp_nm (fun h4 eh4 => ?_)
      replace H := H h4 eh4
      exact wp_retv dX4_write_40 rfl H
    · replace H := H.2 c2
      refine wp_iload_n 26 dX4_write_25 rfl rfl ?_
      refine wp_goto 39 dX4_write_26 rfl ?_
      have c5 := H.1; replace H := H.2
      refine wp_iast 40 dX4_write_39 rfl (kSht_1 k_q) c5 ?_
      refine wp_nm (fun h6 eh6 => ?_)
      replace H := H h6 eh6
      exact wp_retv dX4_write_40 rfl H

theorem cg_X4_write {G : kG} {d : Nat} {Q : Int32 → kM → Prop} {q : Nat} {a1 : Int32} {a2 : Int32} {h : kM} (hd : 2 ≤ d) (k_q : kSht q) (H :
    (((kb (0 ≤ a1 ∧ a1 < (h q 2))) = 0 →
      Q 0 h
    ) ∧ (¬ ((kb (0 ≤ a1 ∧ a1 < (h q 2))) = 0) →
      ((¬ (h q 1) = (32 : Int32) →
        (vp_in a1 24) ∧
        ∀ h4 : kM, h4 = kU h (q + 1) (a1).toNatClampNeg (a2 &&& (((1 : Int32) <<< ((h q 1) &&& 31)) - (1 : Int32))) →
        Q 0 h4
      ) ∧ ((h q 1) = (32 : Int32) →
        (vp_in a1 24) ∧
        ∀ h6 : kM, h6 = kU h (q + 1) (a1).toNatClampNeg a2 →
        Q 0 h6
      ))
    ))) : Cal G d m_X4_write [.ref q, .int a1, .int a2] h Q :=
  Cal.of [.ref q, .int a1, .int a2] (by decide +kernel) (Nat.le_of_ble_eq_true rfl) rfl (sg_X4_write_0 hd k_q H)

theorem sg_X7_put_0 {G : kG} {d : Nat} {Q : Int32 → kM → Prop}  {a1 : Int32} {a2 : Int32} {a3 : Int32} {h : kM} (hd : 3 ≤ d)  (H :
    ((¬ (kb (0 ≤ a1 ∧ a1 < (4 : Int32))) = 0 →
      (vp_in a1 4) ∧
      ∀ q3 : Nat, q3 = 79 + 2 * (a1).toNatClampNeg → kSht q3 →
      ((¬ (kb (¬ h q3 1 = 0)) = 0 →
        ((¬ (kb (0 ≤ a2 ∧ a2 < (h q3 2))) = 0 →
          Cal G (d - 1) m_X4_write [.ref q3, .int a2, .int a3] h (fun x6 h7 =>
            Q (1 : Int32) h7
          )
        ) ∧ ((kb (0 ≤ a2 ∧ a2 < (h q3 2))) = 0 →
          (vp_in (1 : Int32) 7) ∧
          ∀ h9 : kM, h9 = kErr h 87 (1 : Int32) →
          Q (-1000000000 - (1 : Int32)) h9
        ))
      ) ∧ ((kb (¬ h q3 1 = 0)) = 0 →
        (vp_in (2 : Int32) 7) ∧
        ∀ h11 : kM, h11 = kErr h 87 (2 : Int32) →
        Q (-1000000000 - (2 : Int32)) h11
      ))
    ) ∧ ((kb (0 ≤ a1 ∧ a1 < (4 : Int32))) = 0 →
      (vp_in (1 : Int32) 7) ∧
      ∀ h13 : kM, h13 = kErr h 87 (1 : Int32) →
      Q (-1000000000 - (1 : Int32)) h13
    ))) : Wp G d m_X7_put (kEo G d m_X7_put Q) 0 [.ref 0, .int a1, .int a2, .int a3, .null] [] h := by
  refine wp_iload_n 1 dX7_put_0 rfl rfl ?_
  refine wp_iconst (4 : Int32) 2 dX7_put_1 kiconst_4 rfl ?_
  refine wp_cS (d - 1) 2 [.int a1, .int (4 : Int32)] [] 5 dX7_put_2 rfl (lk_X7_58 rfl) (by omega) rfl rfl (Nat.le_of_ble_eq_true rfl) (sp_X7_within (by omega)  ?_)
  refine wp_if_ne 14 8 dX7_put_5 rfl rfl ⟨fun c1 => ?_, fun c1 => ?_⟩
  · replace H := H.1 c1
    refine wp_aload_n 15 dX7_put_14 rfl rfl ?_
    refine wp_getR 78 78 18 dX7_put_15 rfl fl_X7_49 kd_0 rfl rfl rfl rfl ?_
    refine wp_iload_n 19 dX7_put_18 rfl rfl ?_
    have c2 := H.1; replace H := H.2
    refine wp_sheet 20 dX7_put_19 rfl c2 (fun q3 eq3 k_q3 => ?_)
    replace H := H q3 eq3 k_q3
    refine wp_astore 22 dX7_put_20 rfl (Nat.le_of_ble_eq_true rfl) rfl ?_
    refine wp_aload 24 dX7_put_22 rfl rfl ?_
    refine wp_cV (d - 1) 0 [] [] 27 dX7_put_24 rfl (lk_X7_221 rfl) (by omega) (kSht_0 k_q3) rfl rfl rfl (Nat.le_of_ble_eq_true rfl) (sp_X4_isThere (by omega) k_q3 ?_)
    refine wp_if_ne 36 30 dX7_put_27 rfl rfl ⟨fun c4 => ?_, fun c4 => ?_⟩
    · replace H := H.1 c4
      refine wp_iload_n 37 dX7_put_36 rfl rfl ?_
      refine wp_aload 39 dX7_put_37 rfl rfl ?_
      refine wp_getI 42 dX7_put_39 rfl fl_X7_222 (kSht_0 k_q3) rfl ?_
      refine wp_cS (d - 1) 2 [.int a2, .int (h q3 2)] [] 45 dX7_put_42 rfl (lk_X7_58 rfl) (by omega) rfl rfl (Nat.le_of_ble_eq_true rfl) (sp_X7_within (by omega)  ?_)
      refine wp_if_ne 54 48 dX7_put_45 rfl rfl ⟨fun c5 => ?_, fun c5 => ?_⟩
      · replace H := H.1 c5
        refine wp_aload 56 dX7_put_54 rfl rfl ?_
        refine wp_iload_n 57 dX7_put_56 rfl rfl ?_
        refine wp_iload_n 58 dX7_put_57 rfl rfl ?_
        refine wp_cV (d - 1) 2 [.int a2, .int a3] [] 61 dX7_put_58 rfl (lk_X7_257 rfl) (by omega) (kSht_0 k_q3) rfl rfl rfl (Nat.le_of_ble_eq_true rfl) (H.mono (fun x6 h7 H => ?_))
        refine wp_iconst (1 : Int32) 62 dX7_put_61 kiconst_1 rfl ?_
        exact wp_reti dX7_put_62 rfl H
      · replace H := H.2 c5
        refine wp_aload_n 49 dX7_put_48 rfl rfl ?_
        refine wp_iconst (1 : Int32) 50 dX7_put_49 kiconst_1 rfl ?_
        have c8 := H.1; replace H := H.2
        refine wp_cV (d - 1) 1 [.int (1 : Int32)] [] 53 dX7_put_50 rfl (lk_X7_62 rfl) (by omega) kd_0 rfl rfl rfl (Nat.le_of_ble_eq_true rfl) (sp_X7_error (by omega) c8 (fun h9 eh9 => ?_))
        replace H := H h9 eh9
        exact wp_reti dX7_put_53 rfl H
    · replace H := H.2 c4
      refine wp_aload_n 31 dX7_put_30 rfl rfl ?_
      refine wp_iconst (2 : Int32) 32 dX7_put_31 kiconst_2 rfl ?_
      have c10 := H.1; replace H := H.2
      refine wp_cV (d - 1) 1 [.int (2 : Int32)] [] 35 dX7_put_32 rfl (lk_X7_62 rfl) (by omega) kd_0 rfl rfl rfl (Nat.le_of_ble_eq_true rfl) (sp_X7_error (by omega) c10 (fun h11 eh11 => ?_))
      replace H := H h11 eh11
      exact wp_reti dX7_put_35 rfl H
  · replace H := H.2 c1
    refine wp_aload_n 9 dX7_put_8 rfl rfl ?_
    refine wp_iconst (1 : Int32) 10 dX7_put_9 kiconst_1 rfl ?_
    have c12 := H.1; replace H := H.2
    refine wp_cV (d - 1) 1 [.int (1 : Int32)] [] 13 dX7_put_10 rfl (lk_X7_62 rfl) (by omega) kd_0 rfl rfl rfl (Nat.le_of_ble_eq_true rfl) (sp_X7_error (by omega) c12 (fun h13 eh13 => ?_))
    replace H := H h13 eh13
    exact wp_reti dX7_put_13 rfl H

theorem cg_X7_put {G : kG} {d : Nat} {Q : Int32 → kM → Prop}  {a1 : Int32} {a2 : Int32} {a3 : Int32} {h : kM} (hd : 3 ≤ d)  (H :
    ((¬ (kb (0 ≤ a1 ∧ a1 < (4 : Int32))) = 0 →
      (vp_in a1 4) ∧
      ∀ q3 : Nat, q3 = 79 + 2 * (a1).toNatClampNeg → kSht q3 →
      ((¬ (kb (¬ h q3 1 = 0)) = 0 →
        ((¬ (kb (0 ≤ a2 ∧ a2 < (h q3 2))) = 0 →
          Cal G (d - 1) m_X4_write [.ref q3, .int a2, .int a3] h (fun x6 h7 =>
            Q (1 : Int32) h7
          )
        ) ∧ ((kb (0 ≤ a2 ∧ a2 < (h q3 2))) = 0 →
          (vp_in (1 : Int32) 7) ∧
          ∀ h9 : kM, h9 = kErr h 87 (1 : Int32) →
          Q (-1000000000 - (1 : Int32)) h9
        ))
      ) ∧ ((kb (¬ h q3 1 = 0)) = 0 →
        (vp_in (2 : Int32) 7) ∧
        ∀ h11 : kM, h11 = kErr h 87 (2 : Int32) →
        Q (-1000000000 - (2 : Int32)) h11
      ))
    ) ∧ ((kb (0 ≤ a1 ∧ a1 < (4 : Int32))) = 0 →
      (vp_in (1 : Int32) 7) ∧
      ∀ h13 : kM, h13 = kErr h 87 (1 : Int32) →
      Q (-1000000000 - (1 : Int32)) h13
    ))) : Cal G d m_X7_put [.ref 0, .int a1, .int a2, .int a3] h Q :=
  Cal.of [.ref 0, .int a1, .int a2, .int a3, .null] (by decide +kernel) (Nat.le_of_ble_eq_true rfl) rfl (sg_X7_put_0 hd  H)

theorem sg_X8_put_0 {G : kG} {d : Nat} {Q : Int32 → kM → Prop}  {a1 : Int32} {a2 : Int32} {a3 : Int32} {h : kM} (hd : 3 ≤ d)  (H :
    ((¬ (kb (0 ≤ a1 ∧ a1 ≤ 3)) = 0 →
      (vp_in a1 4) ∧
      ((¬ (h 98 (a1).toNatClampNeg) = 0 →
        (vp_in a1 4) ∧
        ((¬ (kb ((0 : Int32) ≤ a2 ∧ a2 ≤ ((h 99 (a1).toNatClampNeg) - (1 : Int32)))) = 0 →
          (vp_in a1 4) ∧
          (vp_in (((24 : Int32) * a1) + a2) 96) ∧
          ∀ h8 : kM, h8 = kU h 100 ((((24 : Int32) * a1) + a2)).toNatClampNeg ((a3 <<< (((32 : Int32) - (h 98 (a1).toNatClampNeg)) &&& 31)) >>> (((32 : Int32) - (h 98 (a1).toNatClampNeg)) &&& 31)) →
          Q (1 : Int32) h8
        ) ∧ ((kb ((0 : Int32) ≤ a2 ∧ a2 ≤ ((h 99 (a1).toNatClampNeg) - (1 : Int32)))) = 0 →
          (vp_in (1 : Int32) 7) ∧
          ∀ h10 : kM, h10 = kErr h 93 (1 : Int32) →
          Q (-1000000000 - (1 : Int32)) h10
        ))
      ) ∧ ((h 98 (a1).toNatClampNeg) = 0 →
        (vp_in (2 : Int32) 7) ∧
        ∀ h12 : kM, h12 = kErr h 93 (2 : Int32) →
        Q (-1000000000 - (2 : Int32)) h12
      ))
    ) ∧ ((kb (0 ≤ a1 ∧ a1 ≤ 3)) = 0 →
      (vp_in (1 : Int32) 7) ∧
      ∀ h14 : kM, h14 = kErr h 93 (1 : Int32) →
      Q (-1000000000 - (1 : Int32)) h14
    ))) : Wp G d m_X8_put (kEo G d m_X8_put Q) 0 [.ref 88, .int a1, .int a2, .int a3, .null] [] h := by
  refine wp_iload_n 1 dX8_put_0 rfl rfl ?_
  refine wp_cS (d - 1) 1 [.int a1] [] 4 dX8_put_1 rfl (lk_X8_230 rfl) (by omega) rfl rfl (Nat.le_of_ble_eq_true rfl) (sp_X8_isSheet (by omega)  ?_)
  refine wp_if_ne 13 7 dX8_put_4 rfl rfl ⟨fun c1 => ?_, fun c1 => ?_⟩
  · replace H := H.1 c1
    refine wp_aload_n 14 dX8_put_13 rfl rfl ?_
    refine wp_getR 10 98 17 dX8_put_14 rfl fl_X8_37 kd_88 rfl rfl rfl rfl ?_
    refine wp_iload_n 18 dX8_put_17 rfl rfl ?_
    have c2 := H.1; replace H := H.2
    refine wp_iald 19 dX8_put_18 rfl kd_98 c2 ?_
    refine wp_if_ne 28 22 dX8_put_19 rfl rfl ⟨fun c3 => ?_, fun c3 => ?_⟩
    · replace H := H.1 c3
      refine wp_iload_n 29 dX8_put_28 rfl rfl ?_
      refine wp_iconst (0 : Int32) 30 dX8_put_29 kiconst_0 rfl ?_
      refine wp_aload_n 31 dX8_put_30 rfl rfl ?_
      refine wp_getR 11 99 34 dX8_put_31 rfl fl_X8_40 kd_88 rfl rfl rfl rfl ?_
      refine wp_iload_n 35 dX8_put_34 rfl rfl ?_
      have c4 := H.1; replace H := H.2
      refine wp_iald 36 dX8_put_35 rfl kd_99 c4 ?_
      refine wp_iconst (1 : Int32) 37 dX8_put_36 kiconst_1 rfl ?_
      refine wp_isub 38 dX8_put_37 rfl ?_
      refine wp_cS (d - 1) 3 [.int a2, .int (0 : Int32), .int ((h 99 (a1).toNatClampNeg) - (1 : Int32))] [] 41 dX8_put_38 rfl (lk_X8_50 rfl) (by omega) rfl rfl (Nat.le_of_ble_eq_true rfl) (sp_X8_in (by omega)  ?_)
      refine wp_if_ne 50 44 dX8_put_41 rfl rfl ⟨fun c5 => ?_, fun c5 => ?_⟩
      · replace H := H.1 c5
        refine wp_bipush (32 : Int32) 52 dX8_put_50 kbipush_32 rfl ?_
        refine wp_aload_n 53 dX8_put_52 rfl rfl ?_
        refine wp_getR 10 98 56 dX8_put_53 rfl fl_X8_37 kd_88 rfl rfl rfl rfl ?_
        refine wp_iload_n 57 dX8_put_56 rfl rfl ?_
        have c6 := H.1; replace H := H.2
        refine wp_iald 58 dX8_put_57 rfl kd_98 c6 ?_
        refine wp_isub 59 dX8_put_58 rfl ?_
        refine wp_istore 61 dX8_put_59 rfl (Nat.le_of_ble_eq_true rfl) rfl ?_
        refine wp_aload_n 62 dX8_put_61 rfl rfl ?_
        refine wp_getR 12 100 65 dX8_put_62 rfl fl_X8_43 kd_88 rfl rfl rfl rfl ?_
        refine wp_bipush (24 : Int32) 67 dX8_put_65 kbipush_24 rfl ?_
        refine wp_iload_n 68 dX8_put_67 rfl rfl ?_
        refine wp_imul 69 dX8_put_68 rfl ?_
        refine wp_iload_n 70 dX8_put_69 rfl rfl ?_
        refine wp_iadd 71 dX8_put_70 rfl ?_
        refine wp_iload_n 72 dX8_put_71 rfl rfl ?_
        refine wp_iload 74 dX8_put_72 rfl rfl ?_
        refine wp_ishl 75 dX8_put_74 rfl ?_
        refine wp_iload 77 dX8_put_75 rfl rfl ?_
        refine wp_ishr 78 dX8_put_77 rfl ?_
        have c7 := H.1; replace H := H.2
        refine wp_iast 79 dX8_put_78 rfl kd_100 c7 ?_
        refine wp_nm (fun h8 eh8 => ?_)
        replace H := H h8 eh8
        refine wp_iconst (1 : Int32) 80 dX8_put_79 kiconst_1 rfl ?_
        exact wp_reti dX8_put_80 rfl H
      · replace H := H.2 c5
        refine wp_aload_n 45 dX8_put_44 rfl rfl ?_
        refine wp_iconst (1 : Int32) 46 dX8_put_45 kiconst_1 rfl ?_
        have c9 := H.1; replace H := H.2
        refine wp_cV (d - 1) 1 [.int (1 : Int32)] [] 49 dX8_put_46 rfl (lk_X8_62 rfl) (by omega) kd_88 rfl rfl rfl (Nat.le_of_ble_eq_true rfl) (sp_X8_error (by omega) c9 (fun h10 eh10 => ?_))
        replace H := H h10 eh10
        exact wp_reti dX8_put_49 rfl H
    · replace H := H.2 c3
      refine wp_aload_n 23 dX8_put_22 rfl rfl ?_
      refine wp_iconst (2 : Int32) 24 dX8_put_23 kiconst_2 rfl ?_
      have c11 := H.1; replace H := H.2
      refine wp_cV (d - 1) 1 [.int (2 : Int32)] [] 27 dX8_put_24 rfl (lk_X8_62 rfl) (by omega) kd_88 rfl rfl rfl (Nat.le_of_ble_eq_true rfl) (sp_X8_error (by omega) c11 (fun h12 eh12 => ?_))
      replace H := H h12 eh12
      exact wp_reti dX8_put_27 rfl H
  · replace H := H.2 c1
    refine wp_aload_n 8 dX8_put_7 rfl rfl ?_
    refine wp_iconst (1 : Int32) 9 dX8_put_8 kiconst_1 rfl ?_
    have c13 := H.1; replace H := H.2
    refine wp_cV (d - 1) 1 [.int (1 : Int32)] [] 12 dX8_put_9 rfl (lk_X8_62 rfl) (by omega) kd_88 rfl rfl rfl (Nat.le_of_ble_eq_true rfl) (sp_X8_error (by omega) c13 (fun h14 eh14 => ?_))
    replace H := H h14 eh14
    exact wp_reti dX8_put_12 rfl H

theorem cg_X8_put {G : kG} {d : Nat} {Q : Int32 → kM → Prop}  {a1 : Int32} {a2 : Int32} {a3 : Int32} {h : kM} (hd : 3 ≤ d)  (H :
    ((¬ (kb (0 ≤ a1 ∧ a1 ≤ 3)) = 0 →
      (vp_in a1 4) ∧
      ((¬ (h 98 (a1).toNatClampNeg) = 0 →
        (vp_in a1 4) ∧
        ((¬ (kb ((0 : Int32) ≤ a2 ∧ a2 ≤ ((h 99 (a1).toNatClampNeg) - (1 : Int32)))) = 0 →
          (vp_in a1 4) ∧
          (vp_in (((24 : Int32) * a1) + a2) 96) ∧
          ∀ h8 : kM, h8 = kU h 100 ((((24 : Int32) * a1) + a2)).toNatClampNeg ((a3 <<< (((32 : Int32) - (h 98 (a1).toNatClampNeg)) &&& 31)) >>> (((32 : Int32) - (h 98 (a1).toNatClampNeg)) &&& 31)) →
          Q (1 : Int32) h8
        ) ∧ ((kb ((0 : Int32) ≤ a2 ∧ a2 ≤ ((h 99 (a1).toNatClampNeg) - (1 : Int32)))) = 0 →
          (vp_in (1 : Int32) 7) ∧
          ∀ h10 : kM, h10 = kErr h 93 (1 : Int32) →
          Q (-1000000000 - (1 : Int32)) h10
        ))
      ) ∧ ((h 98 (a1).toNatClampNeg) = 0 →
        (vp_in (2 : Int32) 7) ∧
        ∀ h12 : kM, h12 = kErr h 93 (2 : Int32) →
        Q (-1000000000 - (2 : Int32)) h12
      ))
    ) ∧ ((kb (0 ≤ a1 ∧ a1 ≤ 3)) = 0 →
      (vp_in (1 : Int32) 7) ∧
      ∀ h14 : kM, h14 = kErr h 93 (1 : Int32) →
      Q (-1000000000 - (1 : Int32)) h14
    ))) : Cal G d m_X8_put [.ref 88, .int a1, .int a2, .int a3] h Q :=
  Cal.of [.ref 88, .int a1, .int a2, .int a3, .null] (by decide +kernel) (Nat.le_of_ble_eq_true rfl) rfl (sg_X8_put_0 hd  H)

theorem sp_X4_write (hd : 2 ≤ d) {q : Nat} (kq : kSht q) {i : Nat} {n : Nat} {x : Int32} (hn : n ≤ 24) (hs : h q 2 = nI n) (hi : i < n) (kk : ∀ h1, h1 = kU h (q + 1) i (kMC (h q 1) x) → Q 0 h1) : Cal G d m_X4_write [.ref q, .int (nI i), .int x] h Q := by
  have l : 0 ≤ nI i ∧ nI i < h q 2 := by rw [hs]; exact iLt hi (by omega)
  refine cg_X4_write hd kq ⟨fun z => absurd l (kb_0.mp z), fun _ => ⟨fun z => ⟨vp_in_nI (by omega) (by decide), fun h1 e1 => ?_⟩, fun z => ⟨vp_in_nI (by omega) (by decide), fun h1 e1 => ?_⟩⟩⟩
  · rw [nI_clamp (by omega)] at e1
    exact kk h1 (by rw [e1]; unfold kMC; rw [if_neg z])
  · rw [nI_clamp (by omega)] at e1
    exact kk h1 (by rw [e1]; unfold kMC; rw [if_pos z])
theorem st_put (hd : 3 ≤ d) (hR : kRel h) (a1 a2 a3 : Int32) : kStp G d m_X7_put m_X8_put [.int a1, .int a2, .int a3] h := by
  by_cases hc : 0 ≤ a1 ∧ a1 < 4
  · obtain ⟨s, hs, rfl⟩ := iI (n := 4) (by decide) hc.1 hc.2
    have hcl : (nI s).toNatClampNeg = s := nI_clamp (by omega)
    have hin : vp_in (nI s) 4 := vp_in_nI hs (by decide)
    have c3 : ¬ kb (0 ≤ nI s ∧ nI s ≤ 3) = 0 := fun q => absurd (i3.mpr hc) (kb_0.mp q)
    obtain ⟨⟨n, hn, r2, r3⟩, r4, r5, r6⟩ := hR.2.2.2.2.2 s hs
    refine cg_X7_put hd ⟨fun _ => ⟨hin, fun q3 e3 k3 => ?_⟩, fun q => absurd hc (kb_0.mp q)⟩
    rw [hcl] at e3
    subst e3
    by_cases hz : h 98 s = 0
    · refine ⟨fun z => absurd (r4.trans hz) (kb_n0.mp z), fun _ => ⟨kin7 (n := 2) (by decide), fun h1 e1 => ?_⟩⟩
      have o98 : h1 98 = h 98 := by rw [e1, kErr_ne (by decide)]
      exact cg_X8_put hd ⟨fun _ => ⟨hin, ⟨fun z => absurd (by rw [o98, hcl]; exact hz) z, fun _ => ⟨kin7 (n := 2) (by decide), kErrs hR h1 e1⟩⟩⟩, fun q => absurd q c3⟩
    · refine ⟨fun _ => ?_, fun z => absurd (by rw [r4]; exact hz) (kb_0.mp z)⟩
      by_cases hv : 0 ≤ a2 ∧ a2 < nI n
      · obtain ⟨i, hi, rfl⟩ := iI (n := n) (by omega) hv.1 hv.2
        refine ⟨fun _ => sp_X4_write (d := d - 1) (by omega) k3 hn r2 hi (fun h1 e1 => ?_), fun z => absurd (by rw [r2]; exact hv) (kb_0.mp z)⟩
        have o1 : ∀ a, a ≠ 79 + 2 * s + 1 → h1 a = h a := fun a ha => by rw [e1, kU_ne ha]
        have o98 : h1 98 = h 98 := o1 98 (by omega)
        have o99 : h1 99 = h 99 := o1 99 (by omega)
        refine cg_X8_put hd ⟨fun _ => ⟨hin, ⟨fun _ => ⟨hin, ⟨fun _ => ⟨hin, by rw [ix24]; exact vp_in_nI (by omega) (by decide), fun h2 e2 => ⟨rfl, ?_⟩⟩, fun z => absurd (by rw [o99, hcl, r3]; exact (iM (by omega)).mpr hv) (kb_0.mp z)⟩⟩, fun z => absurd (by rw [o98, hcl] at z; exact z) hz⟩⟩, fun q => absurd q c3⟩
        rw [ix24, nI_clamp (by omega), hcl, o98] at e2
        have o2 : ∀ a, a ≠ 79 + 2 * s + 1 → a ≠ 100 → h2 a = h a := fun a x y => by rw [e2, kU_ne y, o1 a x]
        have g98 : h2 98 = h 98 := o2 98 (by omega) (by omega)
        have g80 : h2 (80 + 2 * s) = upd (h (80 + 2 * s)) i (kMC (h 98 s) a3) := by rw [e2, kU_ne (by omega), e1, show 80 + 2 * s = 79 + 2 * s + 1 by omega, kU_eq, r4]
        have g100 : h2 100 = upd (h 100) (24 * s + i) (kMM (h 98 s) a3) := by rw [e2, kU_eq, o1 100 (by omega)]; rfl
        refine hR.sheets (fun a x1 x2 x3 x4 _ => o2 a (by omega) x4) (fun t ht => ?_)
        by_cases e : t = s
        · subst e
          refine ⟨⟨n, hn, by rw [o2 _ (by omega) (by omega)]; exact r2, by rw [o2 99 (by omega) (by omega)]; exact r3⟩, by rw [o2 (79 + 2 * t) (by omega) (by omega), g98]; exact r4, by rw [g98]; exact r5, fun j hj => ?_⟩
          rw [g80, g100, g98]
          by_cases ej : j = i
          · subst ej
            exact ⟨a3, pk_us, pk_us⟩
          · rw [pk_un ej, pk_un (j := 24 * t + j) (k := 24 * t + i) (by omega)]
            exact r6 j hj
        · refine (hR.2.2.2.2.2 t ht).congr (o2 _ (by omega) (by omega)) (o2 _ (by omega) (by omega)) (by rw [g98]) (by rw [o2 99 (by omega) (by omega)]) (fun j hj => by rw [g100, pk_un (by omega)])
      · refine ⟨fun z => absurd (by have := kb_n0.mp z; rw [r2] at this; exact this) hv, fun _ => ⟨kin7 (n := 1) (by decide), fun h1 e1 => ?_⟩⟩
        have o98 : h1 98 = h 98 := by rw [e1, kErr_ne (by decide)]
        have o99 : h1 99 = h 99 := by rw [e1, kErr_ne (by decide)]
        exact cg_X8_put hd ⟨fun _ => ⟨hin, ⟨fun _ => ⟨hin, ⟨fun z => absurd ((iM (by omega)).mp (by have := kb_n0.mp z; rw [o99, hcl, r3] at this; exact this)) hv, fun _ => ⟨kin7 (n := 1) (by decide), kErrs hR h1 e1⟩⟩⟩, fun z => absurd (by rw [o98, hcl] at z; exact z) hz⟩⟩, fun q => absurd q c3⟩
  · refine cg_X7_put hd ⟨fun q => absurd (kb_n0.mp q) hc, fun _ => ⟨kin7 (n := 1) (by decide), fun h1 e1 => ?_⟩⟩
    exact cg_X8_put hd ⟨fun q => absurd (i3.mp (kb_n0.mp q)) hc, fun _ => ⟨kin7 (n := 1) (by decide), kErrs hR h1 e1⟩⟩
def at_X7_lands_36 (G : kG) (d : Nat) (Q : Int32 → kM → Prop)  (v1 : Int32) (r2 : Nat) (v3 : Int32) (h : kM) : Prop := Wp G d m_X7_lands (kEo G d m_X7_lands Q) 36 [.ref 0, .int v1, .ref r2, .int v3, .null] [] h
theorem sg_X7_lands_0 {G : kG} {d : Nat} {Q : Int32 → kM → Prop}  {a1 : Int32} {h : kM} (hd : 3 ≤ d)  (H :
    ((¬ (kb (0 ≤ a1 ∧ a1 < (4 : Int32))) = 0 →
      (vp_in a1 4) ∧
      ∀ q3 : Nat, q3 = 79 + 2 * (a1).toNatClampNeg → kSht q3 →
      ((¬ (kb (¬ h q3 1 = 0)) = 0 →
        at_X7_lands_36 G d Q a1 q3 (0 : Int32) h
      ) ∧ ((kb (¬ h q3 1 = 0)) = 0 →
        (vp_in (2 : Int32) 7) ∧
        ∀ h6 : kM, h6 = kErr h 87 (2 : Int32) →
        Q (-1000000000 - (2 : Int32)) h6
      ))
    ) ∧ ((kb (0 ≤ a1 ∧ a1 < (4 : Int32))) = 0 →
      (vp_in (1 : Int32) 7) ∧
      ∀ h8 : kM, h8 = kErr h 87 (1 : Int32) →
      Q (-1000000000 - (1 : Int32)) h8
    ))) : Wp G d m_X7_lands (kEo G d m_X7_lands Q) 0 [.ref 0, .int a1, .null, .null, .null] [] h := by
  refine wp_iload_n 1 dX7_lands_0 rfl rfl ?_
  refine wp_iconst (4 : Int32) 2 dX7_lands_1 kiconst_4 rfl ?_
  refine wp_cS (d - 1) 2 [.int a1, .int (4 : Int32)] [] 5 dX7_lands_2 rfl (lk_X7_58 rfl) (by omega) rfl rfl (Nat.le_of_ble_eq_true rfl) (sp_X7_within (by omega)  ?_)
  refine wp_if_ne 14 8 dX7_lands_5 rfl rfl ⟨fun c1 => ?_, fun c1 => ?_⟩
  · replace H := H.1 c1
    refine wp_aload_n 15 dX7_lands_14 rfl rfl ?_
    refine wp_getR 78 78 18 dX7_lands_15 rfl fl_X7_49 kd_0 rfl rfl rfl rfl ?_
    refine wp_iload_n 19 dX7_lands_18 rfl rfl ?_
    have c2 := H.1; replace H := H.2
    refine wp_sheet 20 dX7_lands_19 rfl c2 (fun q3 eq3 k_q3 => ?_)
    replace H := H q3 eq3 k_q3
    refine wp_astore_n 21 dX7_lands_20 rfl (Nat.le_of_ble_eq_true rfl) rfl ?_
    refine wp_aload_n 22 dX7_lands_21 rfl rfl ?_
    refine wp_cV (d - 1) 0 [] [] 25 dX7_lands_22 rfl (lk_X7_221 rfl) (by omega) (kSht_0 k_q3) rfl rfl rfl (Nat.le_of_ble_eq_true rfl) (sp_X4_isThere (by omega) k_q3 ?_)
    refine wp_if_ne 34 28 dX7_lands_25 rfl rfl ⟨fun c4 => ?_, fun c4 => ?_⟩
    · replace H := H.1 c4
      refine wp_iconst (0 : Int32) 35 dX7_lands_34 kiconst_0 rfl ?_
      refine wp_istore_n 36 dX7_lands_35 rfl (Nat.le_of_ble_eq_true rfl) rfl ?_
      exact H
    · replace H := H.2 c4
      refine wp_aload_n 29 dX7_lands_28 rfl rfl ?_
      refine wp_iconst (2 : Int32) 30 dX7_lands_29 kiconst_2 rfl ?_
      have c5 := H.1; replace H := H.2
      refine wp_cV (d - 1) 1 [.int (2 : Int32)] [] 33 dX7_lands_30 rfl (lk_X7_62 rfl) (by omega) kd_0 rfl rfl rfl (Nat.le_of_ble_eq_true rfl) (sp_X7_error (by omega) c5 (fun h6 eh6 => ?_))
      replace H := H h6 eh6
      exact wp_reti dX7_lands_33 rfl H
  · replace H := H.2 c1
    refine wp_aload_n 9 dX7_lands_8 rfl rfl ?_
    refine wp_iconst (1 : Int32) 10 dX7_lands_9 kiconst_1 rfl ?_
    have c7 := H.1; replace H := H.2
    refine wp_cV (d - 1) 1 [.int (1 : Int32)] [] 13 dX7_lands_10 rfl (lk_X7_62 rfl) (by omega) kd_0 rfl rfl rfl (Nat.le_of_ble_eq_true rfl) (sp_X7_error (by omega) c7 (fun h8 eh8 => ?_))
    replace H := H h8 eh8
    exact wp_reti dX7_lands_13 rfl H

theorem cg_X7_lands {G : kG} {d : Nat} {Q : Int32 → kM → Prop}  {a1 : Int32} {h : kM} (hd : 3 ≤ d)  (H :
    ((¬ (kb (0 ≤ a1 ∧ a1 < (4 : Int32))) = 0 →
      (vp_in a1 4) ∧
      ∀ q3 : Nat, q3 = 79 + 2 * (a1).toNatClampNeg → kSht q3 →
      ((¬ (kb (¬ h q3 1 = 0)) = 0 →
        at_X7_lands_36 G d Q a1 q3 (0 : Int32) h
      ) ∧ ((kb (¬ h q3 1 = 0)) = 0 →
        (vp_in (2 : Int32) 7) ∧
        ∀ h6 : kM, h6 = kErr h 87 (2 : Int32) →
        Q (-1000000000 - (2 : Int32)) h6
      ))
    ) ∧ ((kb (0 ≤ a1 ∧ a1 < (4 : Int32))) = 0 →
      (vp_in (1 : Int32) 7) ∧
      ∀ h8 : kM, h8 = kErr h 87 (1 : Int32) →
      Q (-1000000000 - (1 : Int32)) h8
    ))) : Cal G d m_X7_lands [.ref 0, .int a1] h Q :=
  Cal.of [.ref 0, .int a1, .null, .null, .null] (by decide +kernel) (Nat.le_of_ble_eq_true rfl) rfl (sg_X7_lands_0 hd  H)

theorem sg_X7_lands_36 {G : kG} {d : Nat} {Q : Int32 → kM → Prop}  {v1 : Int32} {r2 : Nat} {v3 : Int32} {h : kM} (hd : 3 ≤ d) (k_r2 : kSht r2) (H :
    (((h r2 2) ≤ v3 →
      Q (h r2 2) h
    ) ∧ (¬ ((h r2 2) ≤ v3) →
      (vp_in v3 24) ∧
      ((¬ (kb (0 ≤ (h (r2 + 1) (v3).toNatClampNeg) ∧ (h (r2 + 1) (v3).toNatClampNeg) < (64 : Int32))) = 0 →
        (vp_in (h (r2 + 1) (v3).toNatClampNeg) 64) ∧
        ∀ h5 : kM, h5 = kU h 2 ((h (r2 + 1) (v3).toNatClampNeg)).toNatClampNeg (1 : Int32) →
        at_X7_lands_36 G d Q v1 r2 (v3 + (1 : Int32)) h5
      ) ∧ ((kb (0 ≤ (h (r2 + 1) (v3).toNatClampNeg) ∧ (h (r2 + 1) (v3).toNatClampNeg) < (64 : Int32))) = 0 →
        Q v3 h
      ))
    ))) : at_X7_lands_36 G d Q v1 r2 v3 h := by
  show Wp G d m_X7_lands (kEo G d m_X7_lands Q) 36 [.ref 0, .int v1, .ref r2, .int v3, .null] [] h
  refine wp_iload_n 37 dX7_lands_36 rfl rfl ?_
  refine wp_aload_n 38 dX7_lands_37 rfl rfl ?_
  refine wp_getI 41 dX7_lands_38 rfl fl_X7_222 (kSht_0 k_r2) rfl ?_
  refine wp_icmp_ge 81 44 dX7_lands_41 rfl rfl ⟨fun c1 => ?_, fun c1 => ?_⟩
  · replace H := H.1 c1
    refine wp_aload_n 82 dX7_lands_81 rfl rfl ?_
    refine wp_getI 85 dX7_lands_82 rfl fl_X7_222 (kSht_0 k_r2) rfl ?_
    exact wp_reti dX7_lands_85 rfl H
  · replace H := H.2 c1
    refine wp_aload_n 45 dX7_lands_44 rfl rfl ?_
    refine wp_getR 1 (r2 + 1) 48 dX7_lands_45 rfl fl_X7_225 (kSht_0 k_r2) rfl rfl rfl rfl ?_
    refine wp_iload_n 49 dX7_lands_48 rfl rfl ?_
    have c2 := H.1; replace H := H.2
    refine wp_iald 50 dX7_lands_49 rfl (kSht_1 k_r2) c2 ?_
    refine wp_istore 52 dX7_lands_50 rfl (Nat.le_of_ble_eq_true rfl) rfl ?_
    refine wp_iload 54 dX7_lands_52 rfl rfl ?_
    refine wp_bipush (64 : Int32) 56 dX7_lands_54 kbipush_64 rfl ?_
    refine wp_cS (d - 1) 2 [.int (h (r2 + 1) (v3).toNatClampNeg), .int (64 : Int32)] [] 59 dX7_lands_56 rfl (lk_X7_58 rfl) (by omega) rfl rfl (Nat.le_of_ble_eq_true rfl) (sp_X7_within (by omega)  ?_)
    refine wp_if_ne 64 62 dX7_lands_59 rfl rfl ⟨fun c3 => ?_, fun c3 => ?_⟩
    · replace H := H.1 c3
      refine wp_aload_n 65 dX7_lands_64 rfl rfl ?_
      refine wp_getR 1 1 68 dX7_lands_65 rfl fl_X7_12 kd_0 rfl rfl rfl rfl ?_
      refine wp_getR 1 2 71 dX7_lands_68 rfl fl_X7_66 kd_1 rfl rfl rfl rfl ?_
      refine wp_iload 73 dX7_lands_71 rfl rfl ?_
      refine wp_iconst (1 : Int32) 74 dX7_lands_73 kiconst_1 rfl ?_
      have c4 := H.1; replace H := H.2
      refine wp_iast 75 dX7_lands_74 rfl kd_2 c4 ?_
      refine wp_nm (fun h5 eh5 => ?_)
      replace H := H h5 eh5
      refine wp_iinc (1 : Int32) 78 dX7_lands_75 rfl rfl kiconst_1 (Nat.le_of_ble_eq_true rfl) rfl ?_
      refine wp_goto 36 dX7_lands_78 rfl ?_
      refine wp_drop 4 ?_
      exact H
    · replace H := H.2 c3
      refine wp_iload_n 63 dX7_lands_62 rfl rfl ?_
      exact wp_reti dX7_lands_63 rfl H

def at_X8_lands_18 (G : kG) (d : Nat) (Q : Int32 → kM → Prop)  (v1 : Int32) (v2 : Int32) (v3 : Int32) (h : kM) : Prop := Wp G d m_X8_lands (kEo G d m_X8_lands Q) 18 [.ref 88, .int v1, .int v2, .int v3] [] h
theorem sg_X8_lands_0 {G : kG} {d : Nat} {Q : Int32 → kM → Prop}  {a1 : Int32} {h : kM} (hd : 4 ≤ d)  (H :
    (((mLacks (h 98) a1) ≤ 0 →
      at_X8_lands_18 G d Q a1 (mLacks (h 98) a1) (0 : Int32) h
    ) ∧ (¬ ((mLacks (h 98) a1) ≤ 0) →
      (vp_in (mLacks (h 98) a1) 7) ∧
      ∀ h3 : kM, h3 = kErr h 93 (mLacks (h 98) a1) →
      Q (-1000000000 - (mLacks (h 98) a1)) h3
    ))) : Wp G d m_X8_lands (kEo G d m_X8_lands Q) 0 [.ref 88, .int a1, .null, .null] [] h := by
  refine wp_aload_n 1 dX8_lands_0 rfl rfl ?_
  refine wp_iload_n 2 dX8_lands_1 rfl rfl ?_
  refine wp_cV (d - 1) 1 [.int a1] [] 5 dX8_lands_2 rfl (lk_X8_281 rfl) (by omega) kd_88 rfl rfl rfl (Nat.le_of_ble_eq_true rfl) (sp_X8_lacks (by omega)  ?_)
  refine wp_istore_n 6 dX8_lands_5 rfl (Nat.le_of_ble_eq_true rfl) rfl ?_
  refine wp_iload_n 7 dX8_lands_6 rfl rfl ?_
  refine wp_if_le 16 10 dX8_lands_7 rfl rfl ⟨fun c1 => ?_, fun c1 => ?_⟩
  · replace H := H.1 c1
    refine wp_iconst (0 : Int32) 17 dX8_lands_16 kiconst_0 rfl ?_
    refine wp_istore_n 18 dX8_lands_17 rfl (Nat.le_of_ble_eq_true rfl) rfl ?_
    exact H
  · replace H := H.2 c1
    refine wp_aload_n 11 dX8_lands_10 rfl rfl ?_
    refine wp_iload_n 12 dX8_lands_11 rfl rfl ?_
    have c2 := H.1; replace H := H.2
    refine wp_cV (d - 1) 1 [.int (mLacks (h 98) a1)] [] 15 dX8_lands_12 rfl (lk_X8_62 rfl) (by omega) kd_88 rfl rfl rfl (Nat.le_of_ble_eq_true rfl) (sp_X8_error (by omega) c2 (fun h3 eh3 => ?_))
    replace H := H h3 eh3
    exact wp_reti dX8_lands_15 rfl H

theorem cg_X8_lands {G : kG} {d : Nat} {Q : Int32 → kM → Prop}  {a1 : Int32} {h : kM} (hd : 4 ≤ d)  (H :
    (((mLacks (h 98) a1) ≤ 0 →
      at_X8_lands_18 G d Q a1 (mLacks (h 98) a1) (0 : Int32) h
    ) ∧ (¬ ((mLacks (h 98) a1) ≤ 0) →
      (vp_in (mLacks (h 98) a1) 7) ∧
      ∀ h3 : kM, h3 = kErr h 93 (mLacks (h 98) a1) →
      Q (-1000000000 - (mLacks (h 98) a1)) h3
    ))) : Cal G d m_X8_lands [.ref 88, .int a1] h Q :=
  Cal.of [.ref 88, .int a1, .null, .null] (by decide +kernel) (Nat.le_of_ble_eq_true rfl) rfl (sg_X8_lands_0 hd  H)

theorem sg_X8_lands_18 {G : kG} {d : Nat} {Q : Int32 → kM → Prop}  {v1 : Int32} {v2 : Int32} {v3 : Int32} {h : kM} (hd : 4 ≤ d)  (H :
    (vp_in v1 4) ∧
    (((h 99 (v1).toNatClampNeg) ≤ v3 →
      Q v3 h
    ) ∧ (¬ ((h 99 (v1).toNatClampNeg) ≤ v3) →
      (vp_in (((24 : Int32) * v1) + v3) 96) ∧
      (((kb (0 ≤ (h 100 ((((24 : Int32) * v1) + v3)).toNatClampNeg) ∧ (h 100 ((((24 : Int32) * v1) + v3)).toNatClampNeg) ≤ 63)) = 0 →
        Q v3 h
      ) ∧ (¬ ((kb (0 ≤ (h 100 ((((24 : Int32) * v1) + v3)).toNatClampNeg) ∧ (h 100 ((((24 : Int32) * v1) + v3)).toNatClampNeg) ≤ 63)) = 0) →
        (vp_in (((24 : Int32) * v1) + v3) 96) ∧
        (vp_in ((8 : Int32) + (h 100 ((((24 : Int32) * v1) + v3)).toNatClampNeg)) 481) ∧
        ∀ h7 : kM, h7 = kU h 89 (((8 : Int32) + (h 100 ((((24 : Int32) * v1) + v3)).toNatClampNeg))).toNatClampNeg (1 : Int32) →
        at_X8_lands_18 G d Q v1 v2 (v3 + (1 : Int32)) h7
      ))
    ))) : at_X8_lands_18 G d Q v1 v2 v3 h := by
  show Wp G d m_X8_lands (kEo G d m_X8_lands Q) 18 [.ref 88, .int v1, .int v2, .int v3] [] h
  refine wp_iload_n 19 dX8_lands_18 rfl rfl ?_
  refine wp_aload_n 20 dX8_lands_19 rfl rfl ?_
  refine wp_getR 11 99 23 dX8_lands_20 rfl fl_X8_40 kd_88 rfl rfl rfl rfl ?_
  refine wp_iload_n 24 dX8_lands_23 rfl rfl ?_
  have c1 := H.1; replace H := H.2
  refine wp_iald 25 dX8_lands_24 rfl kd_99 c1 ?_
  refine wp_icmp_ge 71 28 dX8_lands_25 rfl rfl ⟨fun c2 => ?_, fun c2 => ?_⟩
  · replace H := H.1 c2
    refine wp_iload_n 72 dX8_lands_71 rfl rfl ?_
    exact wp_reti dX8_lands_72 rfl H
  · replace H := H.2 c2
    refine wp_aload_n 29 dX8_lands_28 rfl rfl ?_
    refine wp_getR 12 100 32 dX8_lands_29 rfl fl_X8_43 kd_88 rfl rfl rfl rfl ?_
    refine wp_bipush (24 : Int32) 34 dX8_lands_32 kbipush_24 rfl ?_
    refine wp_iload_n 35 dX8_lands_34 rfl rfl ?_
    refine wp_imul 36 dX8_lands_35 rfl ?_
    refine wp_iload_n 37 dX8_lands_36 rfl rfl ?_
    refine wp_iadd 38 dX8_lands_37 rfl ?_
    have c3 := H.1; replace H := H.2
    refine wp_iald 39 dX8_lands_38 rfl kd_100 c3 ?_
    refine wp_cS (d - 1) 1 [.int (h 100 ((((24 : Int32) * v1) + v3)).toNatClampNeg)] [] 42 dX8_lands_39 rfl (lk_X8_136 rfl) (by omega) rfl rfl (Nat.le_of_ble_eq_true rfl) (sp_X8_isCell (by omega)  ?_)
    refine wp_if_eq 71 45 dX8_lands_42 rfl rfl ⟨fun c4 => ?_, fun c4 => ?_⟩
    · replace H := H.1 c4
      refine wp_iload_n 72 dX8_lands_71 rfl rfl ?_
      exact wp_reti dX8_lands_72 rfl H
    · replace H := H.2 c4
      refine wp_aload_n 46 dX8_lands_45 rfl rfl ?_
      refine wp_getR 1 89 49 dX8_lands_46 rfl fl_X8_7 kd_88 rfl rfl rfl rfl ?_
      refine wp_bipush (8 : Int32) 51 dX8_lands_49 kbipush_8 rfl ?_
      refine wp_aload_n 52 dX8_lands_51 rfl rfl ?_
      refine wp_getR 12 100 55 dX8_lands_52 rfl fl_X8_43 kd_88 rfl rfl rfl rfl ?_
      refine wp_bipush (24 : Int32) 57 dX8_lands_55 kbipush_24 rfl ?_
      refine wp_iload_n 58 dX8_lands_57 rfl rfl ?_
      refine wp_imul 59 dX8_lands_58 rfl ?_
      refine wp_iload_n 60 dX8_lands_59 rfl rfl ?_
      refine wp_iadd 61 dX8_lands_60 rfl ?_
      have c5 := H.1; replace H := H.2
      refine wp_iald 62 dX8_lands_61 rfl kd_100 c5 ?_
      refine wp_iadd 63 dX8_lands_62 rfl ?_
      refine wp_iconst (1 : Int32) 64 dX8_lands_63 kiconst_1 rfl ?_
      have c6 := H.1; replace H := H.2
      refine wp_iast 65 dX8_lands_64 rfl kd_89 c6 ?_
      refine wp_nm (fun h7 eh7 => ?_)
      replace H := H h7 eh7
      refine wp_iinc (1 : Int32) 68 dX8_lands_65 rfl rfl kiconst_1 (Nat.le_of_ble_eq_true rfl) rfl ?_
      refine wp_goto 18 dX8_lands_68 rfl ?_
      exact H

/-- lands laid, cell after cell -/
def kLs (la : Nat → Int32) (cs : Nat → Nat) : Nat → Nat → Int32
  | 0 => la
  | i + 1 => upd (kLs la cs i) (cs i) 1
/-- the first m numbers name cells, the next does not (or there is none) -/
def kCs (X : Nat → Int32) (N m : Nat) : Prop := m ≤ N ∧ (∀ j, j < m → ∃ c, c < 64 ∧ X j = nI c) ∧ (m = N ∨ m < N ∧ ∀ c, c < 64 → ¬ X m = nI c)
theorem lp_lands (hd : 3 ≤ d) {s N : Nat} (hs : s < 4) (kq : kSht (79 + 2 * s)) (hN : N ≤ 24) (h2 : h (79 + 2 * s) 2 = nI N) (kk : ∀ h1 m, kCs (h (80 + 2 * s)) N m → (∀ a, a ≠ 2 → h1 a = h a) → h1 2 = kLs (h 2) (fun j => (h (80 + 2 * s) j).toNatClampNeg) m → Q (nI m) h1) : ∀ (m i : Nat) (h1 : kM), i + m = N → (∀ j, j < i → ∃ c, c < 64 ∧ h (80 + 2 * s) j = nI c) → (∀ a, a ≠ 2 → h1 a = h a) → h1 2 = kLs (h 2) (fun j => (h (80 + 2 * s) j).toNatClampNeg) i → at_X7_lands_36 G d Q (nI s) (79 + 2 * s) (nI i) h1 := by
  intro m
  induction m with
  | zero =>
    intro i h1 hi al ho e2
    have hi2 : i = N := by omega
    subst hi2
    have x2 : h1 (79 + 2 * s) 2 = nI i := by rw [ho _ (by omega)]; exact h2
    refine sg_X7_lands_36 hd kq ⟨fun _ => ?_, fun z => absurd (by rw [x2]; exact nI_le (Nat.le_refl _) (by omega)) z⟩
    rw [x2]
    exact kk h1 i ⟨Nat.le_refl _, al, Or.inl rfl⟩ ho e2
  | succ m ih =>
    intro i h1 hi al ho e2
    have x2 : h1 (79 + 2 * s) 2 = nI N := by rw [ho _ (by omega)]; exact h2
    refine sg_X7_lands_36 hd kq ⟨fun z => absurd z (by rw [x2]; exact ltn (nI_lt (by omega) (by omega))), fun _ => ⟨vp_in_nI (by omega) (by decide), ?_⟩⟩
    rw [nI_clamp (by omega), show 79 + 2 * s + 1 = 80 + 2 * s by omega, ho (80 + 2 * s) (by omega)]
    by_cases hx : 0 ≤ h (80 + 2 * s) i ∧ h (80 + 2 * s) i < 64
    · obtain ⟨c, hc, ec⟩ := iI (n := 64) (by decide) hx.1 hx.2
      refine ⟨fun _ => ⟨by rw [ec]; exact vp_in_nI hc (by decide), fun h3 e3 => ?_⟩, fun z => absurd hx (kb_0.mp z)⟩
      rw [nI_1]
      refine ih (i + 1) h3 (by omega) (fun j hj => ?_) (fun a ha => by rw [e3, kU_ne ha, ho a ha]) (by rw [e3, kU_eq, e2]; rfl)
      by_cases e : j = i
      · subst e
        exact ⟨c, hc, ec⟩
      · exact al j (by omega)
    · exact ⟨fun z => absurd (kb_n0.mp z) hx, fun _ => kk h1 i ⟨by omega, al, Or.inr ⟨by omega, fun c hc e => hx (by rw [e]; exact iLt hc (by decide))⟩⟩ ho e2⟩
theorem lp_mlands (hd : 4 ≤ d) {s N m : Nat} {z : Int32} (hs : s < 4) (hN : N ≤ 24) (e99 : h 99 s = nI N) {Y : Nat → Int32} (hY : ∀ j, j < 24 → h 100 (24 * s + j) = Y j) (cs : kCs Y N m) {la : Nat → Int32} (hla : ∀ c, c < 64 → h 89 (8 + c) = la c) (kk : ∀ h1, (∀ a, a ≠ 89 → h1 a = h a) → (∀ j, ¬ (8 ≤ j ∧ j < 72) → h1 89 j = h 89 j) → (∀ c, c < 64 → h1 89 (8 + c) = kLs la (fun j => (Y j).toNatClampNeg) m c) → Q (nI m) h1) : ∀ (k i : Nat) (h1 : kM), i + k = m → (∀ a, a ≠ 89 → h1 a = h a) → (∀ j, ¬ (8 ≤ j ∧ j < 72) → h1 89 j = h 89 j) → (∀ c, c < 64 → h1 89 (8 + c) = kLs la (fun j => (Y j).toNatClampNeg) i c) → at_X8_lands_18 G d Q (nI s) z (nI i) h1 := by
  obtain ⟨hm, al, en⟩ := cs
  have hcl : (nI s).toNatClampNeg = s := nI_clamp (by omega)
  have hin : vp_in (nI s) 4 := vp_in_nI hs (by decide)
  intro k
  induction k with
  | zero =>
    intro i h1 hi ho hj hl
    have hi2 : i = m := by omega
    subst hi2
    have x99 : h1 99 (nI s).toNatClampNeg = nI N := by rw [ho 99 (by decide), hcl]; exact e99
    refine sg_X8_lands_18 hd ⟨hin, ⟨fun _ => kk h1 ho hj hl, fun y => ?_⟩⟩
    rw [x99] at y
    rcases en with e | ⟨e1, e2⟩
    · exact absurd (by rw [e]; exact nI_le (Nat.le_refl _) (by omega)) y
    · rw [ix24, nI_clamp (by omega), ho 100 (by decide), hY i (by omega)]
      refine ⟨vp_in_nI (by omega) (by decide), ⟨fun _ => kk h1 ho hj hl, fun w => ?_⟩⟩
      obtain ⟨c, hc, ec⟩ := iI (n := 64) (by decide) (kb_n0.mp w).1 (i63.mp (kb_n0.mp w)).2
      exact absurd ec (e2 c hc)
  | succ k ih =>
    intro i h1 hi ho hj hl
    have x99 : h1 99 (nI s).toNatClampNeg = nI N := by rw [ho 99 (by decide), hcl]; exact e99
    obtain ⟨c, hc, ec⟩ := al i (by omega)
    refine sg_X8_lands_18 hd ⟨hin, ⟨fun y => absurd y (by rw [x99]; exact ltn (nI_lt (by omega) (by omega))), fun _ => ?_⟩⟩
    rw [ix24, nI_clamp (by omega), ho 100 (by decide), hY i (by omega)]
    refine ⟨vp_in_nI (by omega) (by decide), ⟨fun w => absurd (by rw [ec]; exact i63.mpr (iLt hc (by decide))) (kb_0.mp w), fun _ => ⟨vp_in_nI (by omega) (by decide), ?_⟩⟩⟩
    rw [ec, i8p, nI_clamp (by omega)]
    refine ⟨vp_in_nI (by omega) (by decide), fun h2 e2 => ?_⟩
    rw [nI_1]
    refine ih (i + 1) h2 (by omega) (fun a ha => by rw [e2, kU_ne ha, ho a ha]) (fun j hj2 => by rw [e2, kU_eq, pk_un (by omega)]; exact hj j hj2) (fun c2 hc2 => ?_)
    show _ = upd (kLs la (fun j => (Y j).toNatClampNeg) i) (Y i).toNatClampNeg 1 c2
    rw [e2, kU_eq, ec, nI_clamp (by omega)]
    by_cases e : c2 = c
    · subst e
      rw [pk_us, pk_us]
    · rw [pk_un (j := 8 + c2) (k := 8 + c) (by omega), pk_un e]
      exact hl c2 hc2
theorem kLs_congr {la la' : Nat → Int32} {cs cs' : Nat → Nat} {m : Nat} (e1 : ∀ c, c < 64 → la c = la' c) (e2 : ∀ j, j < m → cs j = cs' j) : ∀ c, c < 64 → kLs la cs m c = kLs la' cs' m c := by
  induction m with
  | zero => exact e1
  | succ m ih =>
    intro c hc
    show upd (kLs la cs m) (cs m) 1 c = upd (kLs la' cs' m) (cs' m) 1 c
    rw [e2 m (by omega)]
    by_cases e : c = cs' m
    · rw [e, pk_us, pk_us]
    · rw [pk_un e, pk_un e]
      exact ih (fun j hj => e2 j (by omega)) c hc
/-- what a Sheet's numbers say of cells, in both -/
theorem kShR.cell {s : Nat} (r : kShR h s) (hz : ¬ h 98 s = 0) {j c : Nat} (hj : j < 24) (hc : c < 64) : h (80 + 2 * s) j = nI c ↔ h 100 (24 * s + j) = nI c := by
  obtain ⟨v, v1, v2⟩ := r.2.2.2 j hj
  have hb : h 98 s = 8 ∨ h 98 s = 16 ∨ h 98 s = 32 := by
    rcases r.2.2.1 with e | e
    · exact absurd e hz
    · exact e
  rw [v1, v2]
  exact kMC_MM hb hc v
theorem mLacks_n {b : Nat → Int32} {s : Nat} (hs : s < 4) : mLacks b (nI s) = if b s = 0 then 2 else 0 := by
  have hc : 0 ≤ nI s ∧ nI s ≤ 3 := i3.mpr (iLt hs (by decide))
  unfold mLacks
  rw [if_pos hc, nI_clamp (by omega)]
theorem mLacks_no {b : Nat → Int32} {x : Int32} (hc : ¬ (0 ≤ x ∧ x < 4)) : mLacks b x = 1 := by
  unfold mLacks
  rw [if_neg (fun q => hc (i3.mp q))]
theorem st_lands (hd : 4 ≤ d) (hR : kRel h) (a1 : Int32) : kStp G d m_X7_lands m_X8_lands [.int a1] h := by
  by_cases hc : 0 ≤ a1 ∧ a1 < 4
  · obtain ⟨s, hs, rfl⟩ := iI (n := 4) (by decide) hc.1 hc.2
    have hcl : (nI s).toNatClampNeg = s := nI_clamp (by omega)
    have hin : vp_in (nI s) 4 := vp_in_nI hs (by decide)
    have hr := hR.2.2.2.2.2 s hs
    obtain ⟨⟨N, hN, r2, r3⟩, r4, r5, r6⟩ := hR.2.2.2.2.2 s hs
    refine cg_X7_lands (by omega) ⟨fun _ => ⟨hin, fun q3 e3 k3 => ?_⟩, fun q => absurd hc (kb_0.mp q)⟩
    rw [hcl] at e3
    subst e3
    by_cases hz : h 98 s = 0
    · refine ⟨fun z => absurd (r4.trans hz) (kb_n0.mp z), fun _ => ⟨kin7 (n := 2) (by decide), fun h1 e1 => ?_⟩⟩
      have o98 : h1 98 = h 98 := by rw [e1, kErr_ne (by decide)]
      refine cg_X8_lands hd ?_
      rw [o98, mLacks_n hs, if_pos hz]
      exact ⟨fun z => absurd z (by decide), fun _ => ⟨kin7 (n := 2) (by decide), kErrs hR h1 e1⟩⟩
    · refine ⟨fun _ => ?_, fun z => absurd (by rw [r4]; exact hz) (kb_0.mp z)⟩
      refine lp_lands (by omega) hs k3 hN r2 (fun h1 m cs o1 l1 => ?_) N 0 h (by omega) (fun j hj => absurd hj (Nat.not_lt_zero j)) (fun _ _ => rfl) rfl
      obtain ⟨n, H, f, w, hS, hH⟩ := hR.n
      have s7 := hS.2.2.2.2.2.2.1
      have o89 : h1 89 = h 89 := o1 89 (by decide)
      refine cg_X8_lands hd ?_
      rw [o1 98 (by decide), mLacks_n hs, if_neg hz]
      refine ⟨fun _ => ?_, fun z => absurd (by decide) z⟩
      have cs2 : kCs (fun j => h 100 (24 * s + j)) N m := by
        obtain ⟨c1, c2, c3⟩ := cs
        refine ⟨c1, fun j hj => ?_, ?_⟩
        · obtain ⟨c, hc, ec⟩ := c2 j hj
          exact ⟨c, hc, (hr.cell hz (by omega) hc).mp ec⟩
        · rcases c3 with e | ⟨e1, e2⟩
          · exact Or.inl e
          · exact Or.inr ⟨e1, fun c hc e => e2 c hc ((hr.cell hz (by omega) hc).mpr e)⟩
      refine lp_mlands (h := h1) hd hs hN (by rw [o1 99 (by decide)]; exact r3) (fun j hj => by rw [o1 100 (by decide)]) cs2 (la := h 2) (fun c hc => by rw [o89]; exact (s7 c hc).symm) (fun h2 p2 f2 l2 => ⟨rfl, ?_⟩) m 0 h1 (by omega) (fun _ _ => rfl) (fun _ _ => rfl) (fun c hc => by rw [o89]; exact (s7 c hc).symm)
      refine hR.now (fun a x1 x2 => by rw [p2 a x1, o1 a (by omega)]) ⟨n, H, f, w, hS.re_la (fun a x0 x1 x2 x3 => ?_) (fun t _ => ?_) (fun j hj => by rw [f2 j hj, o89]) (fun c hc => ?_), hH⟩
      · show h2 (1 + a) = h (1 + a)
        rw [p2 _ (by omega), o1 _ (by omega)]
      · show h2 1 t = h 1 t
        rw [p2 1 (by decide), o1 1 (by decide)]
      · show h2 2 c = _
        rw [p2 2 (by decide), l1, l2 c hc]
        refine kLs_congr (fun _ _ => rfl) (fun j hj => ?_) c hc
        obtain ⟨c', hc', ec⟩ := cs.2.1 j hj
        show (h (80 + 2 * s) j).toNatClampNeg = (h 100 (24 * s + j)).toNatClampNeg
        rw [ec, (hr.cell hz (by have := cs.1; omega) hc').mp ec]
  · refine cg_X7_lands (by omega) ⟨fun q => absurd (kb_n0.mp q) hc, fun _ => ⟨kin7 (n := 1) (by decide), fun h1 e1 => ?_⟩⟩
    refine cg_X8_lands hd ?_
    rw [mLacks_no hc]
    exact ⟨fun z => absurd z (by decide), fun _ => ⟨kin7 (n := 1) (by decide), kErrs hR h1 e1⟩⟩
end Put

