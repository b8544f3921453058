/-! text -/
section Text
variable {G : kG} {d : Nat} {Q : Int32 → kM → Prop} {h : kM}
theorem sg_X7_text_0 {G : kG} {d : Nat} {Q : Int32 → kM → Prop}  {a1 : Int32} {h : kM} (hd : 4 ≤ d)  (H :
    ((¬ (kb (0 ≤ a1 ∧ a1 < (2 : Int32))) = 0 →
      Cal G (d - 1) m_X1_faultOf [.ref 35, .ref 10, .int (h 1 14), .int a1] h (fun x2 h3 =>
        ∀ h4 : kM, h4 = kU h3 1 14 (0 : Int32) →
        ((x2 < 0 →
          (
          (a1 = 0 →
            ∀ h7 : kM, h7 = kTxtCp h4 12 36 →
            Q (1 : Int32) h7
          ) ∧
          (¬ a1 = 0 →
            ∀ h8 : kM, h8 = kTxtCp h4 15 36 →
            Q (1 : Int32) h8
          )
          )
        ) ∧ (¬ (x2 < 0) →
          Q ((-10 : Int32) - x2) h4
        ))
      )
    ) ∧ ((kb (0 ≤ a1 ∧ a1 < (2 : Int32))) = 0 →
      (vp_in (1 : Int32) 7) ∧
      ∀ h10 : kM, h10 = kErr h 87 (1 : Int32) →
      Q (-1000000000 - (1 : Int32)) h10
    ))) : Wp G d m_X7_text (kEo G d m_X7_text Q) 0 [.ref 0, .int a1, .null] [] h := by
  refine wp_iload_n 1 dX7_text_0 rfl rfl ?_
  refine wp_iconst (2 : Int32) 2 dX7_text_1 kiconst_2 rfl ?_
  refine wp_cS (d - 1) 2 [.int a1, .int (2 : Int32)] [] 5 dX7_text_2 rfl (lk_X7_58 rfl) (by omega) rfl rfl (Nat.le_of_ble_eq_true rfl) (sp_X7_within (by omega)  ?_)
  refine wp_if_ne 14 8 dX7_text_5 rfl rfl ⟨fun c1 => ?_, fun c1 => ?_⟩
  · replace H := H.1 c1
    refine wp_aload_n 15 dX7_text_14 rfl rfl ?_
    refine wp_getR 35 35 18 dX7_text_15 rfl fl_X7_22 kd_0 rfl rfl rfl rfl ?_
    refine wp_aload_n 19 dX7_text_18 rfl rfl ?_
    refine wp_getR 1 1 22 dX7_text_19 rfl fl_X7_12 kd_0 rfl rfl rfl rfl ?_
    refine wp_getR 9 10 25 dX7_text_22 rfl fl_X7_144 kd_1 rfl rfl rfl rfl ?_
    refine wp_aload_n 26 dX7_text_25 rfl rfl ?_
    refine wp_getR 1 1 29 dX7_text_26 rfl fl_X7_12 kd_0 rfl rfl rfl rfl ?_
    refine wp_getI 32 dX7_text_29 rfl fl_X7_141 kd_1 rfl ?_
    refine wp_iload_n 33 dX7_text_32 rfl rfl ?_
    refine wp_cV (d - 1) 3 [.ref 10, .int (h 1 14), .int a1] [] 36 dX7_text_33 rfl (lk_X7_149 rfl) (by omega) kd_35 rfl rfl rfl (Nat.le_of_ble_eq_true rfl) (H.mono (fun x2 h3 H => ?_))
    refine wp_istore_n 37 dX7_text_36 rfl (Nat.le_of_ble_eq_true rfl) rfl ?_
    refine wp_aload_n 38 dX7_text_37 rfl rfl ?_
    refine wp_getR 1 1 41 dX7_text_38 rfl fl_X7_12 kd_0 rfl rfl rfl rfl ?_
    refine wp_iconst (0 : Int32) 42 dX7_text_41 kiconst_0 rfl ?_
    refine wp_putI 45 dX7_text_42 rfl fl_X7_141 fin_2_14 kd_1 rfl ?_
    refine wp_nm (fun h4 eh4 => ?_)
    replace H := H h4 eh4
    refine wp_iload_n 46 dX7_text_45 rfl rfl ?_
    refine wp_if_lt 54 49 dX7_text_46 rfl rfl ⟨fun c5 => ?_, fun c5 => ?_⟩
    · replace H := H.1 c5
      refine wp_aload_n 55 dX7_text_54 rfl rfl ?_
      refine wp_getR 1 1 58 dX7_text_55 rfl fl_X7_12 kd_0 rfl rfl rfl rfl ?_
      refine wp_iload_n 59 dX7_text_58 rfl rfl ?_
      refine wp_cV (d - 1) 1 [.int a1] [] 62 dX7_text_59 rfl (lk_X7_153 rfl) (by omega) kd_1 rfl rfl rfl (Nat.le_of_ble_eq_true rfl) (sp_X2_textOf (by omega) ⟨fun c6 => ?_, fun c6 => ?_⟩)
      · replace H := H.1 c6
        refine wp_aload_n 63 dX7_text_62 rfl rfl ?_
        refine wp_getR 35 35 66 dX7_text_63 rfl fl_X7_22 kd_0 rfl rfl rfl rfl ?_
        refine wp_getR 1 36 69 dX7_text_66 rfl fl_X7_157 kd_35 rfl rfl rfl rfl ?_
        refine wp_cV (d - 1) 1 [.ref 36] [] 72 dX7_text_69 rfl (lk_X7_161 rfl) (by omega) kd_12 rfl rfl rfl (Nat.le_of_ble_eq_true rfl) (sp_X6_become (by omega) kTxt_is12 kTxt_is36 (fun h7 eh7 => ?_))
        replace H := H h7 eh7
        refine wp_iconst (1 : Int32) 73 dX7_text_72 kiconst_1 rfl ?_
        exact wp_reti dX7_text_73 rfl H
      · replace H := H.2 c6
        refine wp_aload_n 63 dX7_text_62 rfl rfl ?_
        refine wp_getR 35 35 66 dX7_text_63 rfl fl_X7_22 kd_0 rfl rfl rfl rfl ?_
        refine wp_getR 1 36 69 dX7_text_66 rfl fl_X7_157 kd_35 rfl rfl rfl rfl ?_
        refine wp_cV (d - 1) 1 [.ref 36] [] 72 dX7_text_69 rfl (lk_X7_161 rfl) (by omega) kd_15 rfl rfl rfl (Nat.le_of_ble_eq_true rfl) (sp_X6_become (by omega) kTxt_is15 kTxt_is36 (fun h8 eh8 => ?_))
        replace H := H h8 eh8
        refine wp_iconst (1 : Int32) 73 dX7_text_72 kiconst_1 rfl ?_
        exact wp_reti dX7_text_73 rfl H
    · replace H := H.2 c5
      refine wp_bipush (-10 : Int32) 51 dX7_text_49 kbipush_m10 rfl ?_
      refine wp_iload_n 52 dX7_text_51 rfl rfl ?_
      refine wp_isub 53 dX7_text_52 rfl ?_
      exact wp_reti dX7_text_53 rfl H
  · replace H := H.2 c1
    refine wp_aload_n 9 dX7_text_8 rfl rfl ?_
    refine wp_iconst (1 : Int32) 10 dX7_text_9 kiconst_1 rfl ?_
    have c9 := H.1; replace H := H.2
    refine wp_cV (d - 1) 1 [.int (1 : Int32)] [] 13 dX7_text_10 rfl (lk_X7_62 rfl) (by omega) kd_0 rfl rfl rfl (Nat.le_of_ble_eq_true rfl) (sp_X7_error (by omega) c9 (fun h10 eh10 => ?_))
    replace H := H h10 eh10
    exact wp_reti dX7_text_13 rfl H

theorem cg_X7_text {G : kG} {d : Nat} {Q : Int32 → kM → Prop}  {a1 : Int32} {h : kM} (hd : 4 ≤ d)  (H :
    ((¬ (kb (0 ≤ a1 ∧ a1 < (2 : Int32))) = 0 →
      Cal G (d - 1) m_X1_faultOf [.ref 35, .ref 10, .int (h 1 14), .int a1] h (fun x2 h3 =>
        ∀ h4 : kM, h4 = kU h3 1 14 (0 : Int32) →
        ((x2 < 0 →
          (
          (a1 = 0 →
            ∀ h7 : kM, h7 = kTxtCp h4 12 36 →
            Q (1 : Int32) h7
          ) ∧
          (¬ a1 = 0 →
            ∀ h8 : kM, h8 = kTxtCp h4 15 36 →
            Q (1 : Int32) h8
          )
          )
        ) ∧ (¬ (x2 < 0) →
          Q ((-10 : Int32) - x2) h4
        ))
      )
    ) ∧ ((kb (0 ≤ a1 ∧ a1 < (2 : Int32))) = 0 →
      (vp_in (1 : Int32) 7) ∧
      ∀ h10 : kM, h10 = kErr h 87 (1 : Int32) →
      Q (-1000000000 - (1 : Int32)) h10
    ))) : Cal G d m_X7_text [.ref 0, .int a1] h Q :=
  Cal.of [.ref 0, .int a1, .null] (by decide +kernel) (Nat.le_of_ble_eq_true rfl) rfl (sg_X7_text_0 hd  H)

def at_X8_text_102 (G : kG) (d : Nat) (Q : Int32 → kM → Prop)  (v1 : Int32) (v2 : Int32) (v3 : Int32) (v4 : Int32) (h : kM) : Prop := Wp G d m_X8_text (kEo G d m_X8_text Q) 102 [.ref 88, .int v1, .int v2, .int v3, .int v4] [] h
theorem sg_X8_text_0 {G : kG} {d : Nat} {Q : Int32 → kM → Prop}  {a1 : Int32} {h : kM} (hd : 3 ≤ d)  (H :
    ((¬ (kb ((0 : Int32) ≤ a1 ∧ a1 ≤ (1 : Int32))) = 0 →
      ∀ h2 : kM, h2 = kU h 88 9 a1 →
      ∀ h3 : kM, h3 = kU h2 88 6 (0 : Int32) →
      ∀ h4 : kM, h4 = kU h3 88 7 (0 : Int32) →
      ∀ h5 : kM, h5 = kU h4 88 8 (0 : Int32) →
      Cal G (d - 1) m_X8_whole [.ref 88] h5 (fun x6 h7 =>
        ((x6 = 0 →
          ∀ h9 : kM, h9 = kU h7 89 4 (0 : Int32) →
          Q ((-10 : Int32) - (h9 88 6)) h9
        ) ∧ (¬ (x6 = 0) →
          ((¬ (h7 88 6) = (h7 89 4) →
            ∀ h11 : kM, h11 = kU h7 89 4 (0 : Int32) →
            Q ((-10 : Int32) - (h11 88 6)) h11
          ) ∧ ((h7 88 6) = (h7 89 4) →
            ∀ h12 : kM, h12 = kU h7 89 4 (0 : Int32) →
            (vp_in ((147 : Int32) + ((125 : Int32) * a1)) 481) ∧
            ∀ h14 : kM, h14 = kU h12 89 (((147 : Int32) + ((125 : Int32) * a1))).toNatClampNeg (h12 88 8) →
            at_X8_text_102 G d Q a1 (1 : Int32) ((147 : Int32) + ((125 : Int32) * a1)) (0 : Int32) h14
          ))
        ))
      )
    ) ∧ ((kb ((0 : Int32) ≤ a1 ∧ a1 ≤ (1 : Int32))) = 0 →
      (vp_in (1 : Int32) 7) ∧
      ∀ h16 : kM, h16 = kErr h 93 (1 : Int32) →
      Q (-1000000000 - (1 : Int32)) h16
    ))) : Wp G d m_X8_text (kEo G d m_X8_text Q) 0 [.ref 88, .int a1, .null, .null, .null] [] h := by
  refine wp_iload_n 1 dX8_text_0 rfl rfl ?_
  refine wp_iconst (0 : Int32) 2 dX8_text_1 kiconst_0 rfl ?_
  refine wp_iconst (1 : Int32) 3 dX8_text_2 kiconst_1 rfl ?_
  refine wp_cS (d - 1) 3 [.int a1, .int (0 : Int32), .int (1 : Int32)] [] 6 dX8_text_3 rfl (lk_X8_50 rfl) (by omega) rfl rfl (Nat.le_of_ble_eq_true rfl) (sp_X8_in (by omega)  ?_)
  refine wp_if_ne 15 9 dX8_text_6 rfl rfl ⟨fun c1 => ?_, fun c1 => ?_⟩
  · replace H := H.1 c1
    refine wp_aload_n 16 dX8_text_15 rfl rfl ?_
    refine wp_iload_n 17 dX8_text_16 rfl rfl ?_
    refine wp_putI 20 dX8_text_17 rfl fl_X8_72 fin_8_9 kd_88 rfl ?_
    refine wp_nm (fun h2 eh2 => ?_)
    replace H := H h2 eh2
    refine wp_aload_n 21 dX8_text_20 rfl rfl ?_
    refine wp_iconst (0 : Int32) 22 dX8_text_21 kiconst_0 rfl ?_
    refine wp_putI 25 dX8_text_22 rfl fl_X8_68 fin_8_6 kd_88 rfl ?_
    refine wp_nm (fun h3 eh3 => ?_)
    replace H := H h3 eh3
    refine wp_aload_n 26 dX8_text_25 rfl rfl ?_
    refine wp_iconst (0 : Int32) 27 dX8_text_26 kiconst_0 rfl ?_
    refine wp_putI 30 dX8_text_27 rfl fl_X8_102 fin_8_7 kd_88 rfl ?_
    refine wp_nm (fun h4 eh4 => ?_)
    replace H := H h4 eh4
    refine wp_aload_n 31 dX8_text_30 rfl rfl ?_
    refine wp_iconst (0 : Int32) 32 dX8_text_31 kiconst_0 rfl ?_
    refine wp_putI 35 dX8_text_32 rfl fl_X8_75 fin_8_8 kd_88 rfl ?_
    refine wp_nm (fun h5 eh5 => ?_)
    replace H := H h5 eh5
    refine wp_aload_n 36 dX8_text_35 rfl rfl ?_
    refine wp_cV (d - 1) 0 [] [] 39 dX8_text_36 rfl (lk_X8_111 rfl) (by omega) kd_88 rfl rfl rfl (Nat.le_of_ble_eq_true rfl) (H.mono (fun x6 h7 H => ?_))
    refine wp_if_eq 59 42 dX8_text_39 rfl rfl ⟨fun c8 => ?_, fun c8 => ?_⟩
    · replace H := H.1 c8
      refine wp_iconst (0 : Int32) 60 dX8_text_59 kiconst_0 rfl ?_
      refine wp_istore_n 61 dX8_text_60 rfl (Nat.le_of_ble_eq_true rfl) rfl ?_
      refine wp_aload_n 62 dX8_text_61 rfl rfl ?_
      refine wp_getR 1 89 65 dX8_text_62 rfl fl_X8_7 kd_88 rfl rfl rfl rfl ?_
      refine wp_iconst (4 : Int32) 66 dX8_text_65 kiconst_4 rfl ?_
      refine wp_iconst (0 : Int32) 67 dX8_text_66 kiconst_0 rfl ?_
      refine wp_iast 68 dX8_text_67 rfl kd_89 (by unfold vp_in; decide) ?_
      refine wp_nm (fun h9 eh9 => ?_)
      replace H := H h9 eh9
      refine wp_iload_n 69 dX8_text_68 rfl rfl ?_
      refine wp_if_ne 80 72 dX8_text_69 rfl rfl ⟨fun c => absurd rfl c, fun c => ?_⟩
      refine wp_bipush (-10 : Int32) 74 dX8_text_72 kbipush_m10 rfl ?_
      refine wp_aload_n 75 dX8_text_74 rfl rfl ?_
      refine wp_getI 78 dX8_text_75 rfl fl_X8_68 kd_88 rfl ?_
      refine wp_isub 79 dX8_text_78 rfl ?_
      exact wp_reti dX8_text_79 rfl H
    · replace H := H.2 c8
      refine wp_aload_n 43 dX8_text_42 rfl rfl ?_
      refine wp_getI 46 dX8_text_43 rfl fl_X8_68 kd_88 rfl ?_
      refine wp_aload_n 47 dX8_text_46 rfl rfl ?_
      refine wp_getR 1 89 50 dX8_text_47 rfl fl_X8_7 kd_88 rfl rfl rfl rfl ?_
      refine wp_iconst (4 : Int32) 51 dX8_text_50 kiconst_4 rfl ?_
      refine wp_iald 52 dX8_text_51 rfl kd_89 (by unfold vp_in; decide) ?_
      refine wp_icmp_ne 59 55 dX8_text_52 rfl rfl ⟨fun c10 => ?_, fun c10 => ?_⟩
      · replace H := H.1 c10
        refine wp_iconst (0 : Int32) 60 dX8_text_59 kiconst_0 rfl ?_
        refine wp_istore_n 61 dX8_text_60 rfl (Nat.le_of_ble_eq_true rfl) rfl ?_
        refine wp_aload_n 62 dX8_text_61 rfl rfl ?_
        refine wp_getR 1 89 65 dX8_text_62 rfl fl_X8_7 kd_88 rfl rfl rfl rfl ?_
        refine wp_iconst (4 : Int32) 66 dX8_text_65 kiconst_4 rfl ?_
        refine wp_iconst (0 : Int32) 67 dX8_text_66 kiconst_0 rfl ?_
        refine wp_iast 68 dX8_text_67 rfl kd_89 (by unfold vp_in; decide) ?_
        refine wp_nm (fun h11 eh11 => ?_)
        replace H := H h11 eh11
        refine wp_iload_n 69 dX8_text_68 rfl rfl ?_
        refine wp_if_ne 80 72 dX8_text_69 rfl rfl ⟨fun c => absurd rfl c, fun c => ?_⟩
        refine wp_bipush (-10 : Int32) 74 dX8_text_72 kbipush_m10 rfl ?_
        refine wp_aload_n 75 dX8_text_74 rfl rfl ?_
        refine wp_getI 78 dX8_text_75 rfl fl_X8_68 kd_88 rfl ?_
        refine wp_isub 79 dX8_text_78 rfl ?_
        exact wp_reti dX8_text_79 rfl H
      · replace H := H.2 c10
        refine wp_iconst (1 : Int32) 56 dX8_text_55 kiconst_1 rfl ?_
        refine wp_goto 60 dX8_text_56 rfl ?_
        refine wp_istore_n 61 dX8_text_60 rfl (Nat.le_of_ble_eq_true rfl) rfl ?_
        refine wp_aload_n 62 dX8_text_61 rfl rfl ?_
        refine wp_getR 1 89 65 dX8_text_62 rfl fl_X8_7 kd_88 rfl rfl rfl rfl ?_
        refine wp_iconst (4 : Int32) 66 dX8_text_65 kiconst_4 rfl ?_
        refine wp_iconst (0 : Int32) 67 dX8_text_66 kiconst_0 rfl ?_
        refine wp_iast 68 dX8_text_67 rfl kd_89 (by unfold vp_in; decide) ?_
        refine wp_nm (fun h12 eh12 => ?_)
        replace H := H h12 eh12
        refine wp_iload_n 69 dX8_text_68 rfl rfl ?_
        refine wp_if_ne 80 72 dX8_text_69 rfl rfl ⟨fun c => ?_, fun c => absurd c (by decide)⟩
        refine wp_sipush (147 : Int32) 83 dX8_text_80 ksipush_147 rfl ?_
        refine wp_bipush (125 : Int32) 85 dX8_text_83 kbipush_125 rfl ?_
        refine wp_iload_n 86 dX8_text_85 rfl rfl ?_
        refine wp_imul 87 dX8_text_86 rfl ?_
        refine wp_iadd 88 dX8_text_87 rfl ?_
        refine wp_istore_n 89 dX8_text_88 rfl (Nat.le_of_ble_eq_true rfl) rfl ?_
        refine wp_aload_n 90 dX8_text_89 rfl rfl ?_
        refine wp_getR 1 89 93 dX8_text_90 rfl fl_X8_7 kd_88 rfl rfl rfl rfl ?_
        refine wp_iload_n 94 dX8_text_93 rfl rfl ?_
        refine wp_aload_n 95 dX8_text_94 rfl rfl ?_
        refine wp_getI 98 dX8_text_95 rfl fl_X8_75 kd_88 rfl ?_
        have c13 := H.1; replace H := H.2
        refine wp_iast 99 dX8_text_98 rfl kd_89 c13 ?_
        refine wp_nm (fun h14 eh14 => ?_)
        replace H := H h14 eh14
        refine wp_iconst (0 : Int32) 100 dX8_text_99 kiconst_0 rfl ?_
        refine wp_istore 102 dX8_text_100 rfl (Nat.le_of_ble_eq_true rfl) rfl ?_
        exact H
  · replace H := H.2 c1
    refine wp_aload_n 10 dX8_text_9 rfl rfl ?_
    refine wp_iconst (1 : Int32) 11 dX8_text_10 kiconst_1 rfl ?_
    have c15 := H.1; replace H := H.2
    refine wp_cV (d - 1) 1 [.int (1 : Int32)] [] 14 dX8_text_11 rfl (lk_X8_62 rfl) (by omega) kd_88 rfl rfl rfl (Nat.le_of_ble_eq_true rfl) (sp_X8_error (by omega) c15 (fun h16 eh16 => ?_))
    replace H := H h16 eh16
    exact wp_reti dX8_text_14 rfl H

theorem cg_X8_text {G : kG} {d : Nat} {Q : Int32 → kM → Prop}  {a1 : Int32} {h : kM} (hd : 3 ≤ d)  (H :
    ((¬ (kb ((0 : Int32) ≤ a1 ∧ a1 ≤ (1 : Int32))) = 0 →
      ∀ h2 : kM, h2 = kU h 88 9 a1 →
      ∀ h3 : kM, h3 = kU h2 88 6 (0 : Int32) →
      ∀ h4 : kM, h4 = kU h3 88 7 (0 : Int32) →
      ∀ h5 : kM, h5 = kU h4 88 8 (0 : Int32) →
      Cal G (d - 1) m_X8_whole [.ref 88] h5 (fun x6 h7 =>
        ((x6 = 0 →
          ∀ h9 : kM, h9 = kU h7 89 4 (0 : Int32) →
          Q ((-10 : Int32) - (h9 88 6)) h9
        ) ∧ (¬ (x6 = 0) →
          ((¬ (h7 88 6) = (h7 89 4) →
            ∀ h11 : kM, h11 = kU h7 89 4 (0 : Int32) →
            Q ((-10 : Int32) - (h11 88 6)) h11
          ) ∧ ((h7 88 6) = (h7 89 4) →
            ∀ h12 : kM, h12 = kU h7 89 4 (0 : Int32) →
            (vp_in ((147 : Int32) + ((125 : Int32) * a1)) 481) ∧
            ∀ h14 : kM, h14 = kU h12 89 (((147 : Int32) + ((125 : Int32) * a1))).toNatClampNeg (h12 88 8) →
            at_X8_text_102 G d Q a1 (1 : Int32) ((147 : Int32) + ((125 : Int32) * a1)) (0 : Int32) h14
          ))
        ))
      )
    ) ∧ ((kb ((0 : Int32) ≤ a1 ∧ a1 ≤ (1 : Int32))) = 0 →
      (vp_in (1 : Int32) 7) ∧
      ∀ h16 : kM, h16 = kErr h 93 (1 : Int32) →
      Q (-1000000000 - (1 : Int32)) h16
    ))) : Cal G d m_X8_text [.ref 88, .int a1] h Q :=
  Cal.of [.ref 88, .int a1, .null, .null, .null] (by decide +kernel) (Nat.le_of_ble_eq_true rfl) rfl (sg_X8_text_0 hd  H)

theorem sg_X8_text_102 {G : kG} {d : Nat} {Q : Int32 → kM → Prop}  {v1 : Int32} {v2 : Int32} {v3 : Int32} {v4 : Int32} {h : kM} (hd : 3 ≤ d)  (H :
    ((((2 : Int32) * (h 88 8)) ≤ v4 →
      Q (1 : Int32) h
    ) ∧ (¬ (((2 : Int32) * (h 88 8)) ≤ v4) →
      (vp_in v4 124) ∧
      (vp_in ((v3 + (1 : Int32)) + v4) 481) ∧
      ∀ h4 : kM, h4 = kU h 89 (((v3 + (1 : Int32)) + v4)).toNatClampNeg (h 94 (v4).toNatClampNeg) →
      at_X8_text_102 G d Q v1 v2 v3 (v4 + (1 : Int32)) h4
    ))) : at_X8_text_102 G d Q v1 v2 v3 v4 h := by
  show Wp G d m_X8_text (kEo G d m_X8_text Q) 102 [.ref 88, .int v1, .int v2, .int v3, .int v4] [] h
  refine wp_iload 104 dX8_text_102 rfl rfl ?_
  refine wp_iconst (2 : Int32) 105 dX8_text_104 kiconst_2 rfl ?_
  refine wp_aload_n 106 dX8_text_105 rfl rfl ?_
  refine wp_getI 109 dX8_text_106 rfl fl_X8_75 kd_88 rfl ?_
  refine wp_imul 110 dX8_text_109 rfl ?_
  refine wp_icmp_ge 137 113 dX8_text_110 rfl rfl ⟨fun c1 => ?_, fun c1 => ?_⟩
  · replace H := H.1 c1
    refine wp_iconst (1 : Int32) 138 dX8_text_137 kiconst_1 rfl ?_
    exact wp_reti dX8_text_138 rfl H
  · replace H := H.2 c1
    refine wp_aload_n 114 dX8_text_113 rfl rfl ?_
    refine wp_getR 1 89 117 dX8_text_114 rfl fl_X8_7 kd_88 rfl rfl rfl rfl ?_
    refine wp_iload_n 118 dX8_text_117 rfl rfl ?_
    refine wp_iconst (1 : Int32) 119 dX8_text_118 kiconst_1 rfl ?_
    refine wp_iadd 120 dX8_text_119 rfl ?_
    refine wp_iload 122 dX8_text_120 rfl rfl ?_
    refine wp_iadd 123 dX8_text_122 rfl ?_
    refine wp_aload_n 124 dX8_text_123 rfl rfl ?_
    refine wp_getR 6 94 127 dX8_text_124 rfl fl_X8_25 kd_88 rfl rfl rfl rfl ?_
    refine wp_iload 129 dX8_text_127 rfl rfl ?_
    have c2 := H.1; replace H := H.2
    refine wp_iald 130 dX8_text_129 rfl kd_94 c2 ?_
    have c3 := H.1; replace H := H.2
    refine wp_iast 131 dX8_text_130 rfl kd_89 c3 ?_
    refine wp_nm (fun h4 eh4 => ?_)
    replace H := H h4 eh4
    refine wp_iinc (1 : Int32) 134 dX8_text_131 rfl rfl kiconst_1 (Nat.le_of_ble_eq_true rfl) rfl ?_
    refine wp_goto 102 dX8_text_134 rfl ?_
    exact H

theorem mCopy (hd : 3 ≤ d) {n B : Nat} (hn : n ≤ 60) (hB : B ≤ 272) {v1 v2 : Int32} {hs : kM} (h8 : hs 88 8 = nI n) : ∀ (k j : Nat) (h : kM), j + k = 2 * n → (∀ q, q ≠ 89 → h q = hs q) → (∀ i, h 89 i = if B + 1 ≤ i ∧ i < B + 1 + j then hs 94 (i - (B + 1)) else hs 89 i) → (∀ h', (∀ q, q ≠ 89 → h' q = hs q) → (∀ i, h' 89 i = if B + 1 ≤ i ∧ i < B + 1 + 2 * n then hs 94 (i - (B + 1)) else hs 89 i) → Q 1 h') → at_X8_text_102 G d Q v1 v2 (nI B) (nI j) h
  | 0, j, h, hj, ho, hg, k => by
    have ej : j = 2 * n := by omega
    subst ej
    refine sg_X8_text_102 hd ⟨fun _ => k h ho hg, fun c => ?_⟩
    rw [ho 88 (by decide), h8, m2n] at c
    exact absurd (nI_le (Nat.le_refl _) (by omega)) c
  | k0 + 1, j, h, hj, ho, hg, k => by
    refine sg_X8_text_102 hd ⟨fun c => ?_, fun _ => ⟨vp_in_nI (by omega) (by decide), ?_⟩⟩
    · rw [ho 88 (by decide), h8, m2n] at c
      have c2 := (nI_leI (a := 2 * n) (b := j) (by omega) (by omega)).mp c
      omega
    rw [nI_1, nI_1, nI_add, nI_clamp (by omega), nI_clamp (by omega), ho 94 (by decide)]
    refine ⟨vp_in_nI (by omega) (by decide), fun h4 e4 => mCopy hd hn hB h8 k0 (j + 1) h4 (by omega) (fun q hq => by rw [e4, kU_ne hq]; exact ho q hq) (fun i => ?_) k⟩
    rw [e4, kU_eq]
    by_cases q : i = B + 1 + j
    · subst q
      rw [pk_us, if_pos (by omega)]
      congr 1
      omega
    · rw [pk_un q, hg i]
      by_cases q2 : B + 1 ≤ i ∧ i < B + 1 + j
      · rw [if_pos q2, if_pos (by omega)]
      · rw [if_neg q2, if_neg (by omega)]
theorem mText (hd : 60 ≤ d) {hc : kM} {F c : Nat} (hc2 : c < 2) {T : Nat → Int32} (hF : F ≤ 60) (h89 : hc 89 4 = nI F) (hT : ∀ i, i < F → hc 89 (397 + i) = T i)
    (kbad : ∀ b z h', rP T F (nI c) 35 0 = (b, z) → (z = none ∨ b < F) → (∀ q, q ≠ 88 → q ≠ 94 → q ≠ 89 → h' q = hc q) → (∀ j, j ≠ 6 → j ≠ 7 → j ≠ 8 → j ≠ 9 → h' 88 j = hc 88 j) → h' 89 = upd (hc 89) 4 0 → Q (-10 - nI b) h')
    (kok : ∀ us h', rP T F (nI c) 35 0 = (F, some us) → (∀ q, q ≠ 88 → q ≠ 94 → q ≠ 89 → h' q = hc q) → (∀ j, j ≠ 6 → j ≠ 7 → j ≠ 8 → j ≠ 9 → h' 88 j = hc 88 j) → (∀ j, ¬ (147 + 125 * c ≤ j ∧ j < 272 + 125 * c) → h' 89 j = upd (hc 89) 4 0 j) → h' 89 (147 + 125 * c) = nI us.length → (∀ i t, us[i]? = some t → h' 89 (147 + 125 * c + 1 + 2 * i) = t.1 ∧ h' 89 (147 + 125 * c + 2 + 2 * i) = t.2) → Q 1 h') : Cal G d m_X8_text [.ref 88, .int (nI c)] hc Q := by
  have eB : (147 : Int32) + 125 * nI c = nI (147 + 125 * c) := by
    rcases (show c = 0 ∨ c = 1 by omega) with rfl | rfl <;> decide
  have rc : (0 : Int32) ≤ nI c ∧ nI c ≤ 1 := ⟨nI_pos' (by omega), nI_le (b := 1) (by omega) (by decide)⟩
  refine cg_X8_text (by omega) ⟨fun _ h2 e2 h3 e3 h4 e4 h5 e5 => ?_, fun z => absurd rc (kb_0.mp z)⟩
  rw [eB, nI_clamp (by omega)]
  have o5 : ∀ q, q ≠ 88 → h5 q = hc q := fun q q1 => by rw [e5, kU_ne q1, e4, kU_ne q1, e3, kU_ne q1, e2, kU_ne q1]
  have x88 : h5 88 = upd (upd (upd (upd (hc 88) 9 (nI c)) 6 0) 7 0) 8 0 := by rw [e5, kU_eq, e4, kU_eq, e3, kU_eq, e2, kU_eq]
  have hy : mHy h5 T F (nI c) := ⟨hF, by rw [o5 89 (by decide)]; exact h89, fun i hi => by rw [o5 89 (by decide)]; exact hT i hi, by rw [x88, pk_un (by decide), pk_un (by decide), pk_un (by decide), pk_us]⟩
  have hs : mSt h5 h5 0 0 [] := by
    refine ⟨⟨fun q _ _ => rfl, fun j _ _ _ => rfl, ?_⟩, ?_, ?_, fun i t ht => by cases ht⟩
    · rw [x88, pk_un (by decide), pk_un (by decide), pk_us]; rfl
    · rw [x88, pk_un (by decide), pk_us]; rfl
    · rw [x88, pk_us]; rfl
  have j88 : ∀ h7 b, mFr h5 h7 b → ∀ j, j ≠ 6 → j ≠ 7 → j ≠ 8 → j ≠ 9 → h7 88 j = hc 88 j := fun h7 b f7 j j1 j2 j3 j4 => by
    rw [f7.2.1 j j1 j2 j3, x88, pk_un j3, pk_un j2, pk_un j1, pk_un j4]
  have o7 : ∀ h7 b, mFr h5 h7 b → ∀ q, q ≠ 88 → q ≠ 94 → h7 q = hc q := fun h7 b f7 q q1 q2 => by rw [f7.1 q q1 q2, o5 q q1]
  refine (mRead (G := G) hy 36 35 (by decide)).1 (d - 1) _ h5 0 [] 0 (by decide) (by decide) (by omega) hs (Nat.zero_le _) (Nat.le_refl _) (fun x h7 s7 => ?_)
  have hg := rP_good (T := T) (u := nI c) 36 35 (by decide) 0 (Nat.zero_le F)
  have bad : ∀ b z h9, rP T F (nI c) 35 0 = (b, z) → (z = none ∨ b < F) → mFr h5 h7 b → h9 = kU h7 89 4 0 → Q (-10 - h9 88 6) h9 := fun b z h9 e w f7 e9 => by
    have e6 : h9 88 6 = nI b := by rw [e9, kU_ne (by decide)]; exact f7.2.2
    rw [e6]
    exact kbad b z h9 e w (fun q q1 q2 q3 => by rw [e9, kU_ne q3]; exact o7 h7 b f7 q q1 q2) (fun j j1 j2 j3 j4 => by rw [e9, kU_ne (by decide)]; exact j88 h7 b f7 j j1 j2 j3 j4) (by rw [e9, kU_eq, o7 h7 b f7 89 (by decide) (by decide)])
  generalize e : rP T F (nI c) 35 0 = r at s7 hg
  obtain ⟨b, z⟩ := r
  have hb : b ≤ F := hg.2.1
  cases z with
  | none => exact ⟨fun _ h9 e9 => bad b none h9 e (Or.inl rfl) s7.2 e9, fun q => absurd s7.1 q⟩
  | some us =>
    have s2 : mSt h5 h7 b 0 us := s7.2
    have g4 := (hg.2.2 us rfl).1
    have g4' : us.length + 0 ≤ b := g4
    have e4' : h7 89 4 = nI F := by rw [o7 h7 b s2.1 89 (by decide) (by decide)]; exact h89
    refine ⟨fun q => absurd (s7.1.symm.trans q) (by decide), fun _ => ⟨fun q h11 e11 => ?_, fun q h12 e12 => ⟨vp_in_nI (by omega) (by decide), fun h14 e14 => ?_⟩⟩⟩
    · refine bad b (some us) h11 e (Or.inr ?_) s2.1 e11
      by_cases w : b = F
      · exact absurd (by rw [e4', s2.1.2.2, w]) q
      · omega
    · have w : b = F := by
        rw [e4', s2.1.2.2] at q
        exact (nI_eq (by omega) (by omega)).mp q
      subst w
      have z88 : h14 88 = h7 88 := by rw [e14, kU_ne (by decide), e12, kU_ne (by decide)]
      have z94 : h14 94 = h7 94 := by rw [e14, kU_ne (by decide), e12, kU_ne (by decide)]
      have z8 : h12 88 8 = nI us.length := by rw [e12, kU_ne (by decide)]; exact s2.2.2.1
      have z89 : h14 89 = upd (upd (hc 89) 4 0) (147 + 125 * c) (nI us.length) := by rw [e14, kU_eq, z8, e12, kU_eq, o7 h7 b s2.1 89 (by decide) (by decide)]
      refine mCopy (by omega) (n := us.length) (B := 147 + 125 * c) (hs := h14) (by omega) (by omega) (by rw [z88]; exact s2.2.2.1) (2 * us.length) 0 h14 (by omega) (fun q _ => rfl) (fun i => by rw [if_neg (by omega)]) (fun h' o' g' => ?_)
      refine kok us h' e (fun q q1 q2 q3 => ?_) (fun j j1 j2 j3 j4 => ?_) (fun j hj => ?_) ?_ (fun i t ht => ?_)
      · rw [o' q q3, e14, kU_ne q3, e12, kU_ne q3]
        exact o7 h7 b s2.1 q q1 q2
      · rw [o' 88 (by decide), z88]
        exact j88 h7 b s2.1 j j1 j2 j3 j4
      · rw [g' j, if_neg (by omega), z89, pk_un (by omega)]
      · rw [g' _, if_neg (by omega), z89, pk_us]
      · have hi := (List.getElem?_eq_some_iff.mp ht).1
        obtain ⟨t1, t2⟩ := s2.2.2.2 i t ht
        refine ⟨?_, ?_⟩
        · rw [g' _, if_pos (by omega), z94, ← t1]
          congr 1
          omega
        · rw [g' _, if_pos (by omega), z94, ← t2]
          congr 1
          omega
theorem kHt_of {u : Int32} {c : Nat → Int32} : ∀ (us : List (Int32 × Int32)) (p k m : Nat), (∀ i t, us[i]? = some t → c (p + i) = kEncT u t) → kHt c p = some k → kHl u us k = some m → kHt c (p + us.length) = some m
  | [], p, k, m, hc, hp, hm => by
    have e : k = m := Option.some.inj hm
    subst e
    exact hp
  | t :: us, p, k, m, hc, hp, hm => by
    have e0 : c p = kEncT u t := hc 0 t rfl
    have e1 : kHt c (p + 1) = kHt1 (kEncT u t) k := by rw [kHt_step hp, e0]
    have hm' : (kHt1 (kEncT u t) k).bind (kHl u us) = some m := hm
    cases e2 : kHt1 (kEncT u t) k with
    | none =>
      rw [e2] at hm'
      cases hm'
    | some k2 =>
      rw [e2] at hm' e1
      have r := kHt_of (c := c) us (p + 1) k2 m (fun i t' ht => by
        have q := hc (i + 1) t' ht
        rw [← q]
        congr 1
        omega) e1 hm'
      rw [← r]
      congr 1
      rw [List.length_cons]
      omega
end Text

