/-! soonest: the class's search, whole -/
section Find
variable {G : kG} {d : Nat} {Q : Int32 → kM → Prop} {h : kM}
def at_X3_goOn_44 (G : kG) (d : Nat) (Q : Int32 → kM → Prop)  (v2 : Int32) (v3 : Int32) (v4 : Int32) (v5 : Int32) (h : kM) : Prop := Wp G d m_X3_goOn (kEo G d m_X3_goOn Q) 44 [.ref 71, .ref 1, .int v2, .int v3, .int v4, .int v5, .null] [] h
theorem sg_X3_goOn_0 {G : kG} {d : Nat} {Q : Int32 → kM → Prop}  {a1 : Int32} {a2 : Int32} {a3 : Int32} {h : kM} (hd : 5 ≤ d)  (H :
    ((¬ (a2 / 64) = (2 : Int32) →
      (((a2 / 64) = (1 : Int32) →
        Q 0 h
      ) ∧ (¬ ((a2 / 64) = (1 : Int32)) →
        (((h 71 5) ≤ a1 →
          Q 0 h
        ) ∧ (¬ ((h 71 5) ≤ a1) →
          ((a1 < (h 71 7) →
            at_X3_goOn_44 G d Q a1 a2 a3 (0 : Int32) h
          ) ∧ (¬ (a1 < (h 71 7)) →
            Q 0 h
          ))
        ))
      ))
    ) ∧ ((a2 / 64) = (2 : Int32) →
      Cal G (d - 1) m_X3_keep [.ref 71, .int a1, .int a3] h (fun x5 h6 =>
        Q 0 h6
      )
    ))) : Wp G d m_X3_goOn (kEo G d m_X3_goOn Q) 0 [.ref 71, .ref 1, .int a1, .int a2, .int a3, .null, .null] [] h := by
  refine wp_iload_n 1 dX3_goOn_0 rfl rfl ?_
  refine wp_cN (d - 1) 1 [.int a2] [] 4 dX3_goOn_1 rfl (lk_X3_66 rfl) (by omega) rfl rfl (Nat.le_of_ble_eq_true rfl) (sp_X7_stateOf (by omega)  ?_)
  refine wp_iconst (2 : Int32) 5 dX3_goOn_4 kiconst_2 rfl ?_
  refine wp_icmp_ne 16 8 dX3_goOn_5 rfl rfl ⟨fun c1 => ?_, fun c1 => ?_⟩
  · replace H := H.1 c1
    refine wp_iload_n 17 dX3_goOn_16 rfl rfl ?_
    refine wp_cN (d - 1) 1 [.int a2] [] 20 dX3_goOn_17 rfl (lk_X3_66 rfl) (by omega) rfl rfl (Nat.le_of_ble_eq_true rfl) (sp_X7_stateOf (by omega)  ?_)
    refine wp_iconst (1 : Int32) 21 dX3_goOn_20 kiconst_1 rfl ?_
    refine wp_icmp_eq 40 24 dX3_goOn_21 rfl rfl ⟨fun c2 => ?_, fun c2 => ?_⟩
    · replace H := H.1 c2
      exact wp_retv dX3_goOn_40 rfl H
    · replace H := H.2 c2
      refine wp_iload_n 25 dX3_goOn_24 rfl rfl ?_
      refine wp_aload_n 26 dX3_goOn_25 rfl rfl ?_
      refine wp_getI 29 dX3_goOn_26 rfl fl_X3_32 kd_71 rfl ?_
      refine wp_icmp_ge 40 32 dX3_goOn_29 rfl rfl ⟨fun c3 => ?_, fun c3 => ?_⟩
      · replace H := H.1 c3
        exact wp_retv dX3_goOn_40 rfl H
      · replace H := H.2 c3
        refine wp_iload_n 33 dX3_goOn_32 rfl rfl ?_
        refine wp_aload_n 34 dX3_goOn_33 rfl rfl ?_
        refine wp_getI 37 dX3_goOn_34 rfl fl_X3_50 kd_71 rfl ?_
        refine wp_icmp_lt 41 40 dX3_goOn_37 rfl rfl ⟨fun c4 => ?_, fun c4 => ?_⟩
        · replace H := H.1 c4
          refine wp_iconst (0 : Int32) 42 dX3_goOn_41 kiconst_0 rfl ?_
          refine wp_istore 44 dX3_goOn_42 rfl (Nat.le_of_ble_eq_true rfl) rfl ?_
          exact H
        · replace H := H.2 c4
          exact wp_retv dX3_goOn_40 rfl H
  · replace H := H.2 c1
    refine wp_aload_n 9 dX3_goOn_8 rfl rfl ?_
    refine wp_iload_n 10 dX3_goOn_9 rfl rfl ?_
    refine wp_iload 12 dX3_goOn_10 rfl rfl ?_
    refine wp_cV (d - 1) 2 [.int a1, .int a3] [] 15 dX3_goOn_12 rfl (lk_X3_70 rfl) (by omega) kd_71 rfl rfl rfl (Nat.le_of_ble_eq_true rfl) (H.mono (fun x5 h6 H => ?_))
    exact wp_retv dX3_goOn_15 rfl H

theorem cg_X3_goOn {G : kG} {d : Nat} {Q : Int32 → kM → Prop}  {a1 : Int32} {a2 : Int32} {a3 : Int32} {h : kM} (hd : 5 ≤ d)  (H :
    ((¬ (a2 / 64) = (2 : Int32) →
      (((a2 / 64) = (1 : Int32) →
        Q 0 h
      ) ∧ (¬ ((a2 / 64) = (1 : Int32)) →
        (((h 71 5) ≤ a1 →
          Q 0 h
        ) ∧ (¬ ((h 71 5) ≤ a1) →
          ((a1 < (h 71 7) →
            at_X3_goOn_44 G d Q a1 a2 a3 (0 : Int32) h
          ) ∧ (¬ (a1 < (h 71 7)) →
            Q 0 h
          ))
        ))
      ))
    ) ∧ ((a2 / 64) = (2 : Int32) →
      Cal G (d - 1) m_X3_keep [.ref 71, .int a1, .int a3] h (fun x5 h6 =>
        Q 0 h6
      )
    ))) : Cal G d m_X3_goOn [.ref 71, .ref 1, .int a1, .int a2, .int a3] h Q :=
  Cal.of [.ref 71, .ref 1, .int a1, .int a2, .int a3, .null, .null] (by decide +kernel) (Nat.le_of_ble_eq_true rfl) rfl (sg_X3_goOn_0 hd  H)

theorem sg_X3_goOn_44 {G : kG} {d : Nat} {Q : Int32 → kM → Prop}  {v2 : Int32} {v3 : Int32} {v4 : Int32} {v5 : Int32} {h : kM} (hd : 5 ≤ d)  (H :
    (((3 : Int32) ≤ v5 →
      ((¬ v2 = 0 →
        ∀ h3 : kM, h3 = kU h 71 6 (h 71 6) →
        Cal G (d - 1) m_X3_behind [.ref 71, .ref 1, .int v2, .int v3] h3 (fun x4 h5 =>
          Cal G (d - 1) m_X3_goOn [.ref 71, .ref 1, .int (v2 + (1 : Int32)), .int x4, .int v4] h5 (fun x6 h7 =>
            Q 0 h7
          )
        )
      ) ∧ (v2 = 0 →
        ∀ h8 : kM, h8 = kU h 71 6 (3 : Int32) →
        Cal G (d - 1) m_X3_behind [.ref 71, .ref 1, .int v2, .int v3] h8 (fun x9 h10 =>
          Cal G (d - 1) m_X3_goOn [.ref 71, .ref 1, .int (v2 + (1 : Int32)), .int x9, .int v4] h10 (fun x11 h12 =>
            Q 0 h12
          )
        )
      ))
    ) ∧ (¬ ((3 : Int32) ≤ v5) →
      (vp_in v5 3) ∧
      ((¬ (h 75 (v5).toNatClampNeg) = (-1 : Int32) →
        at_X3_goOn_44 G d Q v2 v3 v4 (v5 + (1 : Int32)) h
      ) ∧ ((h 75 (v5).toNatClampNeg) = (-1 : Int32) →
        (vp_in (((3 : Int32) * (h 71 4)) + v5) 15) ∧
        (((kb (h (1 + 8) ((((3 : Int32) * (h 71 4)) + v5)).toNatClampNeg = -1 ∧ kDay ((h 1 13) + v2) ∧ ¬ v3 / 64 = 1)) = 0 →
          at_X3_goOn_44 G d Q v2 v3 v4 (v5 + (1 : Int32)) h
        ) ∧ (¬ ((kb (h (1 + 8) ((((3 : Int32) * (h 71 4)) + v5)).toNatClampNeg = -1 ∧ kDay ((h 1 13) + v2) ∧ ¬ v3 / 64 = 1)) = 0) →
          (vp_in v5 3) ∧
          ∀ h18 : kM, h18 = kU h 75 (v5).toNatClampNeg v2 →
          ((¬ v2 = 0 →
            ∀ h20 : kM, h20 = kU h18 71 6 (h18 71 6) →
            Cal G (d - 1) m_X3_behind [.ref 71, .ref 1, .int v2, .int v3] h20 (fun x21 h22 =>
              Cal G (d - 1) m_X3_goOn [.ref 71, .ref 1, .int (v2 + (1 : Int32)), .int x21, .int (v4 + (1 : Int32))] h22 (fun x23 h24 =>
                (vp_in v5 3) ∧
                ∀ h26 : kM, h26 = kU h24 75 (v5).toNatClampNeg (-1 : Int32) →
                at_X3_goOn_44 G d Q v2 v3 v4 (v5 + (1 : Int32)) h26
              )
            )
          ) ∧ (v2 = 0 →
            ∀ h27 : kM, h27 = kU h18 71 6 v5 →
            Cal G (d - 1) m_X3_behind [.ref 71, .ref 1, .int v2, .int v3] h27 (fun x28 h29 =>
              Cal G (d - 1) m_X3_goOn [.ref 71, .ref 1, .int (v2 + (1 : Int32)), .int x28, .int (v4 + (1 : Int32))] h29 (fun x30 h31 =>
                (vp_in v5 3) ∧
                ∀ h33 : kM, h33 = kU h31 75 (v5).toNatClampNeg (-1 : Int32) →
                at_X3_goOn_44 G d Q v2 v3 v4 (v5 + (1 : Int32)) h33
              )
            )
          ))
        ))
      ))
    ))) : at_X3_goOn_44 G d Q v2 v3 v4 v5 h := by
  show Wp G d m_X3_goOn (kEo G d m_X3_goOn Q) 44 [.ref 71, .ref 1, .int v2, .int v3, .int v4, .int v5, .null] [] h
  refine wp_iload 46 dX3_goOn_44 rfl rfl ?_
  refine wp_iconst (3 : Int32) 47 dX3_goOn_46 kiconst_3 rfl ?_
  refine wp_icmp_ge 146 50 dX3_goOn_47 rfl rfl ⟨fun c1 => ?_, fun c1 => ?_⟩
  · replace H := H.1 c1
    refine wp_aload_n 147 dX3_goOn_146 rfl rfl ?_
    refine wp_iload_n 148 dX3_goOn_147 rfl rfl ?_
    refine wp_if_ne 155 151 dX3_goOn_148 rfl rfl ⟨fun c2 => ?_, fun c2 => ?_⟩
    · replace H := H.1 c2
      refine wp_aload_n 156 dX3_goOn_155 rfl rfl ?_
      refine wp_getI 159 dX3_goOn_156 rfl fl_X3_47 kd_71 rfl ?_
      refine wp_putI 162 dX3_goOn_159 rfl fl_X3_47 fin_3_6 kd_71 rfl ?_
      refine wp_nm (fun h3 eh3 => ?_)
      replace H := H h3 eh3
      refine wp_aload_n 163 dX3_goOn_162 rfl rfl ?_
      refine wp_aload_n 164 dX3_goOn_163 rfl rfl ?_
      refine wp_iload_n 165 dX3_goOn_164 rfl rfl ?_
      refine wp_iconst (1 : Int32) 166 dX3_goOn_165 kiconst_1 rfl ?_
      refine wp_iadd 167 dX3_goOn_166 rfl ?_
      refine wp_aload_n 168 dX3_goOn_167 rfl rfl ?_
      refine wp_aload_n 169 dX3_goOn_168 rfl rfl ?_
      refine wp_iload_n 170 dX3_goOn_169 rfl rfl ?_
      refine wp_iload_n 171 dX3_goOn_170 rfl rfl ?_
      refine wp_cV (d - 1) 3 [.ref 1, .int v2, .int v3] [.int (v2 + (1 : Int32)), .ref 1, .ref 71] 174 dX3_goOn_171 rfl (lk_X3_78 rfl) (by omega) kd_71 rfl rfl rfl (Nat.le_of_ble_eq_true rfl) (H.mono (fun x4 h5 H => ?_))
      refine wp_iload 176 dX3_goOn_174 rfl rfl ?_
      refine wp_cV (d - 1) 4 [.ref 1, .int (v2 + (1 : Int32)), .int x4, .int v4] [] 179 dX3_goOn_176 rfl (lk_X3_62 rfl) (by omega) kd_71 rfl rfl rfl (Nat.le_of_ble_eq_true rfl) (H.mono (fun x6 h7 H => ?_))
      exact wp_retv dX3_goOn_179 rfl H
    · replace H := H.2 c2
      refine wp_iconst (3 : Int32) 152 dX3_goOn_151 kiconst_3 rfl ?_
      refine wp_goto 159 dX3_goOn_152 rfl ?_
      refine wp_putI 162 dX3_goOn_159 rfl fl_X3_47 fin_3_6 kd_71 rfl ?_
      refine wp_nm (fun h8 eh8 => ?_)
      replace H := H h8 eh8
      refine wp_aload_n 163 dX3_goOn_162 rfl rfl ?_
      refine wp_aload_n 164 dX3_goOn_163 rfl rfl ?_
      refine wp_iload_n 165 dX3_goOn_164 rfl rfl ?_
      refine wp_iconst (1 : Int32) 166 dX3_goOn_165 kiconst_1 rfl ?_
      refine wp_iadd 167 dX3_goOn_166 rfl ?_
      refine wp_aload_n 168 dX3_goOn_167 rfl rfl ?_
      refine wp_aload_n 169 dX3_goOn_168 rfl rfl ?_
      refine wp_iload_n 170 dX3_goOn_169 rfl rfl ?_
      refine wp_iload_n 171 dX3_goOn_170 rfl rfl ?_
      refine wp_cV (d - 1) 3 [.ref 1, .int v2, .int v3] [.int (v2 + (1 : Int32)), .ref 1, .ref 71] 174 dX3_goOn_171 rfl (lk_X3_78 rfl) (by omega) kd_71 rfl rfl rfl (Nat.le_of_ble_eq_true rfl) (H.mono (fun x9 h10 H => ?_))
      refine wp_iload 176 dX3_goOn_174 rfl rfl ?_
      refine wp_cV (d - 1) 4 [.ref 1, .int (v2 + (1 : Int32)), .int x9, .int v4] [] 179 dX3_goOn_176 rfl (lk_X3_62 rfl) (by omega) kd_71 rfl rfl rfl (Nat.le_of_ble_eq_true rfl) (H.mono (fun x11 h12 H => ?_))
      exact wp_retv dX3_goOn_179 rfl H
  · replace H := H.2 c1
    refine wp_iconst (3 : Int32) 51 dX3_goOn_50 kiconst_3 rfl ?_
    refine wp_aload_n 52 dX3_goOn_51 rfl rfl ?_
    refine wp_getI 55 dX3_goOn_52 rfl fl_X3_24 kd_71 rfl ?_
    refine wp_imul 56 dX3_goOn_55 rfl ?_
    refine wp_iload 58 dX3_goOn_56 rfl rfl ?_
    refine wp_iadd 59 dX3_goOn_58 rfl ?_
    refine wp_istore 61 dX3_goOn_59 rfl (Nat.le_of_ble_eq_true rfl) rfl ?_
    refine wp_aload_n 62 dX3_goOn_61 rfl rfl ?_
    refine wp_getR 4 75 65 dX3_goOn_62 rfl fl_X3_21 kd_71 rfl rfl rfl rfl ?_
    refine wp_iload 67 dX3_goOn_65 rfl rfl ?_
    have c13 := H.1; replace H := H.2
    refine wp_iald 68 dX3_goOn_67 rfl kd_75 c13 ?_
    refine wp_iconst (-1 : Int32) 69 dX3_goOn_68 kiconst_m1 rfl ?_
    refine wp_icmp_ne 140 72 dX3_goOn_69 rfl rfl ⟨fun c14 => ?_, fun c14 => ?_⟩
    · replace H := H.1 c14
      refine wp_iinc (1 : Int32) 143 dX3_goOn_140 rfl rfl kiconst_1 (Nat.le_of_ble_eq_true rfl) rfl ?_
      refine wp_goto 44 dX3_goOn_143 rfl ?_
      refine wp_drop 6 ?_
      exact H
    · replace H := H.2 c14
      refine wp_aload_n 73 dX3_goOn_72 rfl rfl ?_
      refine wp_iload 75 dX3_goOn_73 rfl rfl ?_
      refine wp_aload_n 76 dX3_goOn_75 rfl rfl ?_
      refine wp_getI 79 dX3_goOn_76 rfl fl_X3_35 kd_1 rfl ?_
      refine wp_iload_n 80 dX3_goOn_79 rfl rfl ?_
      refine wp_iadd 81 dX3_goOn_80 rfl ?_
      refine wp_iload_n 82 dX3_goOn_81 rfl rfl ?_
      have c15 := H.1; replace H := H.2
      refine wp_cV (d - 1) 3 [.int (((3 : Int32) * (h 71 4)) + v5), .int ((h 1 13) + v2), .int v3] [] 85 dX3_goOn_82 rfl (lk_X3_74 rfl) (by omega) kd_1 rfl rfl rfl (Nat.le_of_ble_eq_true rfl) (sp_X2_mayBeLoosed (by omega) kSea_is1 c15 ?_)
      refine wp_if_eq 140 88 dX3_goOn_85 rfl rfl ⟨fun c16 => ?_, fun c16 => ?_⟩
      · replace H := H.1 c16
        refine wp_iinc (1 : Int32) 143 dX3_goOn_140 rfl rfl kiconst_1 (Nat.le_of_ble_eq_true rfl) rfl ?_
        refine wp_goto 44 dX3_goOn_143 rfl ?_
        refine wp_drop 6 ?_
        exact H
      · replace H := H.2 c16
        refine wp_aload_n 89 dX3_goOn_88 rfl rfl ?_
        refine wp_getR 4 75 92 dX3_goOn_89 rfl fl_X3_21 kd_71 rfl rfl rfl rfl ?_
        refine wp_iload 94 dX3_goOn_92 rfl rfl ?_
        refine wp_iload_n 95 dX3_goOn_94 rfl rfl ?_
        have c17 := H.1; replace H := H.2
        refine wp_iast 96 dX3_goOn_95 rfl kd_75 c17 ?_
        refine wp_nm (fun h18 eh18 => ?_)
        replace H := H h18 eh18
        refine wp_aload_n 97 dX3_goOn_96 rfl rfl ?_
        refine wp_iload_n 98 dX3_goOn_97 rfl rfl ?_
        refine wp_if_ne 106 101 dX3_goOn_98 rfl rfl ⟨fun c19 => ?_, fun c19 => ?_⟩
        · replace H := H.1 c19
          refine wp_aload_n 107 dX3_goOn_106 rfl rfl ?_
          refine wp_getI 110 dX3_goOn_107 rfl fl_X3_47 kd_71 rfl ?_
          refine wp_putI 113 dX3_goOn_110 rfl fl_X3_47 fin_3_6 kd_71 rfl ?_
          refine wp_nm (fun h20 eh20 => ?_)
          replace H := H h20 eh20
          refine wp_aload_n 114 dX3_goOn_113 rfl rfl ?_
          refine wp_aload_n 115 dX3_goOn_114 rfl rfl ?_
          refine wp_iload_n 116 dX3_goOn_115 rfl rfl ?_
          refine wp_iconst (1 : Int32) 117 dX3_goOn_116 kiconst_1 rfl ?_
          refine wp_iadd 118 dX3_goOn_117 rfl ?_
          refine wp_aload_n 119 dX3_goOn_118 rfl rfl ?_
          refine wp_aload_n 120 dX3_goOn_119 rfl rfl ?_
          refine wp_iload_n 121 dX3_goOn_120 rfl rfl ?_
          refine wp_iload_n 122 dX3_goOn_121 rfl rfl ?_
          refine wp_cV (d - 1) 3 [.ref 1, .int v2, .int v3] [.int (v2 + (1 : Int32)), .ref 1, .ref 71] 125 dX3_goOn_122 rfl (lk_X3_78 rfl) (by omega) kd_71 rfl rfl rfl (Nat.le_of_ble_eq_true rfl) (H.mono (fun x21 h22 H => ?_))
          refine wp_iload 127 dX3_goOn_125 rfl rfl ?_
          refine wp_iconst (1 : Int32) 128 dX3_goOn_127 kiconst_1 rfl ?_
          refine wp_iadd 129 dX3_goOn_128 rfl ?_
          refine wp_cV (d - 1) 4 [.ref 1, .int (v2 + (1 : Int32)), .int x21, .int (v4 + (1 : Int32))] [] 132 dX3_goOn_129 rfl (lk_X3_62 rfl) (by omega) kd_71 rfl rfl rfl (Nat.le_of_ble_eq_true rfl) (H.mono (fun x23 h24 H => ?_))
          refine wp_aload_n 133 dX3_goOn_132 rfl rfl ?_
          refine wp_getR 4 75 136 dX3_goOn_133 rfl fl_X3_21 kd_71 rfl rfl rfl rfl ?_
          refine wp_iload 138 dX3_goOn_136 rfl rfl ?_
          refine wp_iconst (-1 : Int32) 139 dX3_goOn_138 kiconst_m1 rfl ?_
          have c25 := H.1; replace H := H.2
          refine wp_iast 140 dX3_goOn_139 rfl kd_75 c25 ?_
          refine wp_nm (fun h26 eh26 => ?_)
          replace H := H h26 eh26
          refine wp_iinc (1 : Int32) 143 dX3_goOn_140 rfl rfl kiconst_1 (Nat.le_of_ble_eq_true rfl) rfl ?_
          refine wp_goto 44 dX3_goOn_143 rfl ?_
          refine wp_drop 6 ?_
          exact H
        · replace H := H.2 c19
          refine wp_iload 103 dX3_goOn_101 rfl rfl ?_
          refine wp_goto 110 dX3_goOn_103 rfl ?_
          refine wp_putI 113 dX3_goOn_110 rfl fl_X3_47 fin_3_6 kd_71 rfl ?_
          refine wp_nm (fun h27 eh27 => ?_)
          replace H := H h27 eh27
          refine wp_aload_n 114 dX3_goOn_113 rfl rfl ?_
          refine wp_aload_n 115 dX3_goOn_114 rfl rfl ?_
          refine wp_iload_n 116 dX3_goOn_115 rfl rfl ?_
          refine wp_iconst (1 : Int32) 117 dX3_goOn_116 kiconst_1 rfl ?_
          refine wp_iadd 118 dX3_goOn_117 rfl ?_
          refine wp_aload_n 119 dX3_goOn_118 rfl rfl ?_
          refine wp_aload_n 120 dX3_goOn_119 rfl rfl ?_
          refine wp_iload_n 121 dX3_goOn_120 rfl rfl ?_
          refine wp_iload_n 122 dX3_goOn_121 rfl rfl ?_
          refine wp_cV (d - 1) 3 [.ref 1, .int v2, .int v3] [.int (v2 + (1 : Int32)), .ref 1, .ref 71] 125 dX3_goOn_122 rfl (lk_X3_78 rfl) (by omega) kd_71 rfl rfl rfl (Nat.le_of_ble_eq_true rfl) (H.mono (fun x28 h29 H => ?_))
          refine wp_iload 127 dX3_goOn_125 rfl rfl ?_
          refine wp_iconst (1 : Int32) 128 dX3_goOn_127 kiconst_1 rfl ?_
          refine wp_iadd 129 dX3_goOn_128 rfl ?_
          refine wp_cV (d - 1) 4 [.ref 1, .int (v2 + (1 : Int32)), .int x28, .int (v4 + (1 : Int32))] [] 132 dX3_goOn_129 rfl (lk_X3_62 rfl) (by omega) kd_71 rfl rfl rfl (Nat.le_of_ble_eq_true rfl) (H.mono (fun x30 h31 H => ?_))
          refine wp_aload_n 133 dX3_goOn_132 rfl rfl ?_
          refine wp_getR 4 75 136 dX3_goOn_133 rfl fl_X3_21 kd_71 rfl rfl rfl rfl ?_
          refine wp_iload 138 dX3_goOn_136 rfl rfl ?_
          refine wp_iconst (-1 : Int32) 139 dX3_goOn_138 kiconst_m1 rfl ?_
          have c32 := H.1; replace H := H.2
          refine wp_iast 140 dX3_goOn_139 rfl kd_75 c32 ?_
          refine wp_nm (fun h33 eh33 => ?_)
          replace H := H h33 eh33
          refine wp_iinc (1 : Int32) 143 dX3_goOn_140 rfl rfl kiconst_1 (Nat.le_of_ble_eq_true rfl) rfl ?_
          refine wp_goto 44 dX3_goOn_143 rfl ?_
          refine wp_drop 6 ?_
          exact H

def kSwt (s : Nat → Int32) (t : Nat) : Prop := ∀ k, k < 3 → s k = -1 ∨ ∃ u, u < t ∧ s k = nI u
theorem kSwt.v {s : Nat → Int32} {t : Nat} (w : kSwt s t) : kSv s t := fun k hk => by
  rcases w k hk with e | ⟨u, hu, e⟩
  · exact Or.inl e
  · exact Or.inr ⟨u, by omega, e⟩
theorem kSwt.s {s : Nat → Int32} {t : Nat} (w : kSwt s t) : kSwt s (t + 1) := fun k hk => by
  rcases w k hk with e | ⟨u, hu, e⟩
  · exact Or.inl e
  · exact Or.inr ⟨u, by omega, e⟩
theorem kSwt.u {s : Nat → Int32} {t k : Nat} (w : kSwt s t) : kSwt (upd s k (nI t)) (t + 1) := fun j hj => by
  by_cases e : j = k
  · subst e
    exact Or.inr ⟨t, by omega, pk_us⟩
  · rw [pk_un e]
    exact w.s j hj
theorem kSwt.v1 {s : Nat → Int32} {t : Nat} (w : kSwt s (t + 1)) : kSv s t := fun k hk => by
  rcases w k hk with e | ⟨u, hu, e⟩
  · exact Or.inl e
  · exact Or.inr ⟨u, by omega, e⟩
theorem kPo.cg {P P' : Nat → Nat → Nat → Prop} {b b' : Nat × Nat × Nat} (h : kPo P b b') (e : ∀ T L R, P' T L R ↔ P T L R) : kPo P' b b' := by
  refine ⟨?_, fun T L R q => h.2.1 T L R ((e T L R).mp q), h.2.2⟩
  rcases h.1 with q | q
  · exact Or.inl q
  · exact Or.inr ((e _ _ _).mpr q)
theorem kNp_lt {v : kM} {p t : Nat} {s : Nat → Int32} {x : Nat × Nat} (h1 : x.1 < 64) (h2 : x.2 < 3) : (kNp v p s t x).1 < 64 ∧ (kNp v p s t x).2 < 3 := kSai_lt h1 h2
theorem kOr.ne {n : Nat} {b : Nat × Nat × Nat} {t r : Nat} (o : kOr n b t r) : kOr n b t (r + 1) := o.mono (by omega)
theorem sp_X3_goOn {h0 : kM} {p n : Nat} {g : Nat → Int32} {ns H f w : Nat} (hS : kSRn (kVw h0 1) g ns H f w) (hp : p < ns) (hn : n ≤ 10) : ∀ (m t : Nat) {d : Nat} {Q : Int32 → kM → Prop} (x : Nat × Nat) (s : Nat → Int32) (l r : Nat) (b : Nat × Nat × Nat) (h : kM), t + m = n → 5 + m ≤ d → kSc h0 h p n s → kSwt s t → x.1 < 64 → x.2 < 3 → l ≤ t → r < 4 ^ t → kBs n h b → b.1 ≤ 11 → b.2.1 ≤ 10 → h 71 6 = nI (kF1 t r) → kOr n b t r → (∀ h1 b1, kSc h0 h1 p n s → kBs n h1 b1 → b1.1 ≤ 11 → b1.2.1 ≤ 10 → (1 ≤ t → h1 71 6 = h 71 6) → kPo (kOut (kVw h0 1) p m t x s l r) b b1 → kOr n b1 t (r + 1) → Q 0 h1) → Cal G d m_X3_goOn [.ref 71, .ref 1, .int (nI t), .int (kPl x), .int (nI l)] h Q := by
  have hns := hS.1.1
  -- what both steps share: home
  have home : ∀ (m t : Nat) {d : Nat} {Q : Int32 → kM → Prop} (x : Nat × Nat) (s : Nat → Int32) (l r : Nat) (b : Nat × Nat × Nat) (h : kM), t + m = n → 1 ≤ d → kSc h0 h p n s → x.2 = 2 → l ≤ t → kBs n h b → b.1 ≤ 11 → b.2.1 ≤ 10 → h 71 6 = nI (kF1 t r) → kOr n b t r → (∀ h1 b1, kSc h0 h1 p n s → kBs n h1 b1 → b1.1 ≤ 11 → b1.2.1 ≤ 10 → (1 ≤ t → h1 71 6 = h 71 6) → kPo (kOut (kVw h0 1) p m t x s l r) b b1 → kOr n b1 t (r + 1) → Q 0 h1) → Cal G d m_X3_keep [.ref 71, .int (nI t), .int (nI l)] h Q := by
    intro m t d Q x s l r b h htm hd c hx hl hB hb1 hb2 h6 o kk
    refine sp_X3_keep hd (by omega) (by omega) hb1 hb2 hB h6 (by omega) o (fun h1 o1 s1 B1 P1 => ?_) (fun P1 => ?_)
    · refine kk h1 (t, l, r) (c.set (fun a a1 a2 => o1 a a1) (s1 4 (by decide)) (s1 5 (by decide)) (fun k hk => by rw [o1 75 (by decide)]; exact c.2.2.2.2.2 k hk)) B1 (by show t ≤ 11; omega) (by show l ≤ 10; omega) (fun _ => s1 6 (by decide)) (P1.cg (fun T L R => kOut_h hx)) (fun _ _ => ?_)
      show r < (r + 1) * 4 ^ (t - t)
      rw [Nat.sub_self, Nat.pow_zero, Nat.mul_one]
      omega
    · exact kk h b c hB hb1 hb2 (fun _ => rfl) (P1.cg (fun T L R => kOut_h hx)) o.ne
  intro m
  induction m with
  | zero =>
    intro t d Q x s l r b h htm hd c sw x1 x2 hl hr hB hb1 hb2 h6 o kk
    have st := kPl_st x1 x2
    refine cg_X3_goOn (by omega) ?_
    rw [st]
    refine ⟨fun n2 => ⟨fun e1 => ?_, fun n1 => ⟨fun _ => ?_, fun z => absurd (by rw [c.2.2.1]; exact nI_le (by omega) (by omega)) z⟩⟩, fun e2 => ?_⟩
    · exact kk h b c hB hb1 hb2 (fun _ => rfl) (kPo.no (fun T L R q => absurd q (kOut_w ((nI_eq (b := 1) (by omega) (by decide)).mp e1)))) o.ne
    · exact kk h b c hB hb1 hb2 (fun _ => rfl) (kPo.no (fun T L R q => absurd (by rw [q.1]; rfl) n2)) o.ne
    · exact home 0 t (d := d - 1) x s l r b h htm (by omega) c ((nI_eq (b := 2) (by omega) (by decide)).mp e2) hl hB hb1 hb2 h6 o kk
  | succ m ih =>
    intro t d Q x s l r b h htm hd c sw x1 x2 hl hr hB hb1 hb2 h6 o kk
    have st := kPl_st x1 x2
    have hr4 : ∀ k, k ≤ 3 → 4 * r + k < 4 ^ (t + 1) := fun k hk => by rw [Nat.pow_succ]; omega
    refine cg_X3_goOn (by omega) ?_
    rw [st]
    refine ⟨fun n2 => ⟨fun e1 => ?_, fun n1 => ⟨fun z => absurd z (by rw [c.2.2.1]; exact ltn (nI_lt (by omega) (by omega))), fun _ => ⟨fun lt => ?_, fun nlt' => ?_⟩⟩⟩, fun e2 => ?_⟩
    · exact kk h b c hB hb1 hb2 (fun _ => rfl) (kPo.no (fun T L R q => absurd q (kOut_w ((nI_eq (b := 1) (by omega) (by decide)).mp e1)))) o.ne
    · have n2' : ¬ x.2 = 2 := fun e => n2 (by rw [e]; rfl)
      have n1' : ¬ x.2 = 1 := fun e => n1 (by rw [e]; rfl)
      have x0 : x.2 = 0 := by omega
      have lt : t < b.1 := by
        rw [hB.1] at lt
        exact (nI_ltI (by omega) (by omega)).mp lt
      have lp : ∀ (j k : Nat) (h2 : kM) (b2 : Nat × Nat × Nat), k + j = 3 → kSc h0 h2 p n s → kBs n h2 b2 → b2.1 ≤ 11 → b2.2.1 ≤ 10 → (1 ≤ t → h2 71 6 = h 71 6) → t < b2.1 → kPo (fun T L R => ∃ i, i < k ∧ kMa (kVw h0 1) p s t x i ∧ kOut (kVw h0 1) p m (t + 1) (kNp (kVw h0 1) p (upd s i (nI t)) t x) (upd s i (nI t)) (l + 1) (4 * r + i) T L R) b b2 → kOr n b2 (t + 1) (4 * r + k) → at_X3_goOn_44 G d Q (nI t) (kPl x) (nI l) (nI k) h2 := by
        intro j
        induction j with
        | zero =>
          intro k h2 b2 hk c2 B2 u1 u2 f2 lt2 P2 o2
          have hk3 : k = 3 := by omega
          subst hk3
          have next : ∀ h3, (∀ a, a ≠ 71 → h3 a = h2 a) → (∀ s, s ≠ 6 → h3 71 s = h2 71 s) → h3 71 6 = nI (kF1 (t + 1) (4 * r + 3)) → (1 ≤ t → h3 71 6 = h2 71 6) → Cal G (d - 1) m_X3_behind [.ref 71, .ref 1, .int (nI t), .int (kPl x)] h3 (fun x4 h5 => Cal G (d - 1) m_X3_goOn [.ref 71, .ref 1, .int (nI (t + 1)), .int x4, .int (nI l)] h5 (fun x6 h7 => Q 0 h7)) := by
            intro h3 o3 s3 f3 g3
            have c3 : kSc h0 h3 p n s := c2.set (fun a a1 _ => o3 a a1) (s3 4 (by decide)) (s3 5 (by decide)) (fun k hk => by rw [o3 75 (by decide)]; exact c2.2.2.2.2.2 k hk)
            have l3 := kNp_lt (v := kVw h0 1) (p := p) (s := s) (t := t) x1 x2
            refine sp_X3_behind (d := d - 1) (by omega) hS hp hn (by omega) c3 sw.v x1 x2 ?_
            refine ih (t + 1) (d := d - 1) _ s l (4 * r + 3) b2 h3 (by omega) (by omega) c3 sw.s l3.1 l3.2 (by omega) (hr4 3 (by omega)) ⟨by rw [s3 7 (by decide)]; exact B2.1, by rw [s3 8 (by decide)]; exact B2.2.1, fun q => by rw [s3 9 (by decide)]; exact B2.2.2 q⟩ u1 u2 f3 o2 (fun h7 b3 c7 B7 w1 w2 f7 P7 o7 => ?_)
            refine kk h7 b3 c7 B7 w1 w2 (fun t1 => by rw [f7 (by omega), g3 t1, f2 t1]) ?_ (kOr.up (by rw [show 4 * (r + 1) = 4 * r + 3 + 1 by omega]; exact o7) (fun e => ?_))
            · refine P2.tr P7 (fun T L R q => Or.inr ⟨x0, Or.inl ?_⟩) (fun T L R q => Or.inr ⟨x0, Or.inr q⟩) (fun T L R q => ?_)
              · obtain ⟨i, hi, q1, q2⟩ := q
                exact ⟨i, hi, q1, q2⟩
              · rcases q with q | ⟨-, ⟨i, hi, q1, q2⟩ | q⟩
                · exact absurd q.1 n2'
                · exact Or.inl ⟨i, hi, q1, q2⟩
                · exact Or.inr q
            · exfalso
              rcases P7.1 with q | q
              · rw [q] at e
                omega
              · have := (kOut_b _ _ _ _ _ _ _ _ _ q).1
                omega
          refine sg_X3_goOn_44 (by omega) ⟨fun _ => ⟨fun z h3 e3 => ?_, fun z h3 e3 => ?_⟩, fun z => absurd (nI_le (Nat.le_refl 3) (by decide)) z⟩
          · have t0 : ¬ t = 0 := fun e => z (by rw [e]; exact nI_0)
            rw [nI_1]
            refine next h3 (fun a ha => by rw [e3, kU_ne ha]) (fun s hs => by rw [e3, kU_eq, pk_un hs]) ?_ (fun _ => by rw [e3, kU_eq, pk_us])
            rw [e3, kU_eq, pk_us, f2 (by omega), h6, kF1_s (by omega) hr, if_neg t0]
          · have t0 : t = 0 := (nI_eq (b := 0) (by omega) (by decide)).mp (z.trans nI_0.symm)
            rw [nI_1]
            refine next h3 (fun a ha => by rw [e3, kU_ne ha]) (fun s hs => by rw [e3, kU_eq, pk_un hs]) ?_ (fun q => by omega)
            rw [e3, kU_eq, pk_us, kF1_s (by omega) hr, if_pos t0]
            rfl
        | succ j jh =>
          intro k h2 b2 hk c2 B2 u1 u2 f2 lt2 P2 o2
          have v3 : vp_in (nI k) 3 := vp_in_nI (by omega) (by decide)
          have skip : ¬ kMa (kVw h0 1) p s t x k → at_X3_goOn_44 G d Q (nI t) (kPl x) (nI l) (nI (k + 1)) h2 := fun nm => by
            refine jh (k + 1) h2 b2 (by omega) c2 B2 u1 u2 f2 lt2 (P2.cg (fun T L R => ⟨fun q => ?_, fun q => ?_⟩)) (o2.mono (by omega))
            · obtain ⟨i, hi, q1, q2⟩ := q
              refine ⟨i, ?_, q1, q2⟩
              by_cases e : i = k
              · subst e
                exact absurd q1 nm
              · omega
            · obtain ⟨i, hi, q1, q2⟩ := q
              exact ⟨i, by omega, q1, q2⟩
          have e75 := c2.2.2.2.2.2 k (by omega)
          refine sg_X3_goOn_44 (by omega) ⟨fun z => absurd z (ltn (nI_lt (b := 3) (by omega) (by decide))), fun _ => ⟨v3, ?_⟩⟩
          rw [nI_clamp (n := k) (by omega), e75, c2.2.1, ix3, nI_clamp (n := 3 * p + k) (by omega), st, c2.1 1 (by decide) (by decide) (by decide), c2.1 (1 + 8) (by decide) (by decide) (by decide), nI_1, nI_1, nI_1]
          refine ⟨fun z => skip (fun q => z q.1), fun z => ⟨vp_in_nI (by omega) (by decide), fun z2 => skip (fun q => kb_0.mp z2 q.2), fun z2 => ⟨v3, fun h18 e18 => ?_⟩⟩⟩
          have hm : kMa (kVw h0 1) p s t x k := ⟨z, kb_n0.mp z2⟩
          have next : ∀ h20, (∀ a, a ≠ 71 → h20 a = h18 a) → (∀ s, s ≠ 6 → h20 71 s = h18 71 s) → h20 71 6 = nI (kF1 (t + 1) (4 * r + k)) → (1 ≤ t → h20 71 6 = h18 71 6) → Cal G (d - 1) m_X3_behind [.ref 71, .ref 1, .int (nI t), .int (kPl x)] h20 (fun x21 h22 => Cal G (d - 1) m_X3_goOn [.ref 71, .ref 1, .int (nI (t + 1)), .int x21, .int (nI (l + 1))] h22 (fun x23 h24 => vp_in (nI k) 3 ∧ ∀ h26, h26 = kU h24 75 k (-1) → at_X3_goOn_44 G d Q (nI t) (kPl x) (nI l) (nI (k + 1)) h26)) := by
            intro h20 o3 s3 f3 g3
            have g18 : ∀ s, h18 71 s = h2 71 s := fun s => by rw [e18, kU_ne (by decide)]
            have c3 : kSc h0 h20 p n (upd s k (nI t)) := by
              refine c2.set (fun a a1 a2 => by rw [o3 a a1, e18, kU_ne a2]) (by rw [s3 4 (by decide), g18]) (by rw [s3 5 (by decide), g18]) (fun i hi => ?_)
              rw [o3 75 (by decide), e18, kU_eq]
              by_cases e : i = k
              · subst e
                rw [pk_us, pk_us]
              · rw [pk_un e, pk_un e]
                exact c2.2.2.2.2.2 i hi
            have l3 := kNp_lt (v := kVw h0 1) (p := p) (s := upd s k (nI t)) (t := t) x1 x2
            refine sp_X3_behind (d := d - 1) (by omega) hS hp hn (by omega) c3 sw.u.v1 x1 x2 ?_
            refine ih (t + 1) (d := d - 1) _ (upd s k (nI t)) (l + 1) (4 * r + k) b2 h20 (by omega) (by omega) c3 sw.u l3.1 l3.2 (by omega) (hr4 k (by omega)) ⟨by rw [s3 7 (by decide), g18]; exact B2.1, by rw [s3 8 (by decide), g18]; exact B2.2.1, fun q => by rw [s3 9 (by decide), g18]; exact B2.2.2 q⟩ u1 u2 f3 o2 (fun h24 b3 c7 B7 w1 w2 f7 P7 o7 => ⟨v3, fun h26 e26 => ?_⟩)
            have g26 : ∀ s, h26 71 s = h24 71 s := fun s => by rw [e26, kU_ne (by decide)]
            refine jh (k + 1) h26 b3 (by omega) ?_ ⟨by rw [g26]; exact B7.1, by rw [g26]; exact B7.2.1, fun q => by rw [g26]; exact B7.2.2 q⟩ w1 w2 (fun t1 => by rw [g26, f7 (by omega), g3 t1, g18, f2 t1]) ?_ ?_ o7
            · refine c7.set (fun a a1 a2 => by rw [e26, kU_ne a2]) (g26 4) (g26 5) (fun i hi => ?_)
              rw [e26, kU_eq]
              by_cases e : i = k
              · subst e
                rw [pk_us, z]
              · rw [pk_un e, c7.2.2.2.2.2 i hi, pk_un e]
            · rcases P7.1 with q | q
              · rw [q]
                exact lt2
              · have := (kOut_b _ _ _ _ _ _ _ _ _ q).1
                omega
            · refine P2.tr P7 (fun T L R q => ?_) (fun T L R q => ⟨k, by omega, hm, q⟩) (fun T L R q => ?_)
              · obtain ⟨i, hi, q1, q2⟩ := q
                exact ⟨i, by omega, q1, q2⟩
              · obtain ⟨i, hi, q1, q2⟩ := q
                by_cases e : i = k
                · subst e
                  exact Or.inr q2
                · exact Or.inl ⟨i, by omega, q1, q2⟩
          refine ⟨fun zt h20 e20 => next h20 (fun a ha => by rw [e20, kU_ne ha]) (fun s hs => by rw [e20, kU_eq, pk_un hs]) ?_ (fun _ => by rw [e20, kU_eq, pk_us]), fun zt h27 e27 => next h27 (fun a ha => by rw [e27, kU_ne ha]) (fun s hs => by rw [e27, kU_eq, pk_un hs]) ?_ (fun q => ?_)⟩
          · have t0 : ¬ t = 0 := fun e => zt (by rw [e]; exact nI_0)
            rw [e20, kU_eq, pk_us, e18, kU_ne (by decide), f2 (by omega), h6, kF1_s (by omega) hr, if_neg t0]
          · have t0 : t = 0 := (nI_eq (b := 0) (by omega) (by decide)).mp (zt.trans nI_0.symm)
            rw [e27, kU_eq, pk_us, kF1_s (by omega) hr, if_pos t0]
          · exfalso
            have t0 : t = 0 := (nI_eq (b := 0) (by omega) (by decide)).mp (zt.trans nI_0.symm)
            omega
      refine lp 3 0 h b (by omega) c hB hb1 hb2 (fun _ => rfl) lt (kPo.no (fun T L R q => ?_)) o.down
      obtain ⟨i, hi, -⟩ := q
      exact absurd hi (Nat.not_lt_zero i)
    · have nl : ¬ t < b.1 := fun e => nlt' (by rw [hB.1]; exact nI_lt e (by omega))
      refine kk h b c hB hb1 hb2 (fun _ => rfl) (kPo.no (fun T L R q => ?_)) o.ne
      have hT : t + 1 ≤ T := by
        rcases q with q | ⟨-, ⟨i, hi, q1, q2⟩ | q⟩
        · exact absurd (by rw [q.1]; rfl) n2
        · exact (kOut_b _ _ _ _ _ _ _ _ _ q2).1
        · exact (kOut_b _ _ _ _ _ _ _ _ _ q).1
      unfold kLt
      omega
    · exact home (m + 1) t (d := d - 1) x s l r b h htm (by omega) c ((nI_eq (b := 2) (by omega) (by decide)).mp e2) hl hB hb1 hb2 h6 o kk
def at_X3_find_19 (G : kG) (d : Nat) (Q : Int32 → kM → Prop)  (v2 : Int32) (v3 : Int32) (v4 : Int32) (h : kM) : Prop := Wp G d m_X3_find (kEo G d m_X3_find Q) 19 [.ref 71, .ref 1, .int v2, .int v3, .int v4, .null] [] h
def at_X3_find_75 (G : kG) (d : Nat) (Q : Int32 → kM → Prop)  (v2 : Int32) (v3 : Int32) (v4 : Int32) (h : kM) : Prop := Wp G d m_X3_find (kEo G d m_X3_find Q) 75 [.ref 71, .ref 1, .int v2, .int v3, .int v4, .null] [] h
def at_X3_find_92 (G : kG) (d : Nat) (Q : Int32 → kM → Prop)  (v2 : Int32) (v3 : Int32) (v4 : Int32) (v5 : Int32) (h : kM) : Prop := Wp G d m_X3_find (kEo G d m_X3_find Q) 92 [.ref 71, .ref 1, .int v2, .int v3, .int v4, .int v5] [] h
theorem sg_X3_find_0 {G : kG} {d : Nat} {Q : Int32 → kM → Prop}  {a1 : Int32} {a2 : Int32} {h : kM} (hd : 6 ≤ d)  (H :
    ∀ h1 : kM, h1 = kU h 71 4 a1 →
    ∀ h2 : kM, h2 = kU h1 71 5 (kHeld a2 (0 : Int32) (10 : Int32)) →
    at_X3_find_19 G d Q a1 a2 (0 : Int32) h2) : Wp G d m_X3_find (kEo G d m_X3_find Q) 0 [.ref 71, .ref 1, .int a1, .int a2, .null, .null] [] h := by
  refine wp_aload_n 1 dX3_find_0 rfl rfl ?_
  refine wp_iload_n 2 dX3_find_1 rfl rfl ?_
  refine wp_putI 5 dX3_find_2 rfl fl_X3_24 fin_3_4 kd_71 rfl ?_
  refine wp_nm (fun h1 eh1 => ?_)
  replace H := H h1 eh1
  refine wp_aload_n 6 dX3_find_5 rfl rfl ?_
  refine wp_iload_n 7 dX3_find_6 rfl rfl ?_
  refine wp_iconst (0 : Int32) 8 dX3_find_7 kiconst_0 rfl ?_
  refine wp_bipush (10 : Int32) 10 dX3_find_8 kbipush_10 rfl ?_
  refine wp_cN (d - 1) 3 [.int a2, .int (0 : Int32), .int (10 : Int32)] [.ref 71] 13 dX3_find_10 rfl (lk_X3_28 rfl) (by omega) rfl rfl (Nat.le_of_ble_eq_true rfl) (sp_X7_held (by omega)  ?_)
  refine wp_putI 16 dX3_find_13 rfl fl_X3_32 fin_3_5 kd_71 rfl ?_
  refine wp_nm (fun h2 eh2 => ?_)
  replace H := H h2 eh2
  refine wp_iconst (0 : Int32) 17 dX3_find_16 kiconst_0 rfl ?_
  refine wp_istore 19 dX3_find_17 rfl (Nat.le_of_ble_eq_true rfl) rfl ?_
  exact H

theorem cg_X3_find {G : kG} {d : Nat} {Q : Int32 → kM → Prop}  {a1 : Int32} {a2 : Int32} {h : kM} (hd : 6 ≤ d)  (H :
    ∀ h1 : kM, h1 = kU h 71 4 a1 →
    ∀ h2 : kM, h2 = kU h1 71 5 (kHeld a2 (0 : Int32) (10 : Int32)) →
    at_X3_find_19 G d Q a1 a2 (0 : Int32) h2) : Cal G d m_X3_find [.ref 71, .ref 1, .int a1, .int a2] h Q :=
  Cal.of [.ref 71, .ref 1, .int a1, .int a2, .null, .null] (by decide +kernel) (Nat.le_of_ble_eq_true rfl) rfl (sg_X3_find_0 hd  H)

theorem sg_X3_find_19 {G : kG} {d : Nat} {Q : Int32 → kM → Prop}  {v2 : Int32} {v3 : Int32} {v4 : Int32} {h : kM} (hd : 6 ≤ d)  (H :
    (((h 71 5) ≤ v4 →
      at_X3_find_75 G d Q v2 v3 (0 : Int32) h
    ) ∧ (¬ ((h 71 5) ≤ v4) →
      (vp_in (0 : Int32) 2 ∧ kSeaOk (kVw h 1)) ∧
      ∀ (h3 : kM), kS1 1 h h3 →
      (vp_in v4 10) ∧
      ∀ h5 : kM, h5 = kU h3 72 (v4).toNatClampNeg (kWn (kVw h 1) (0 : Int32) ((h 1 13) + v4)) →
      (vp_in (1 : Int32) 2 ∧ kSeaOk (kVw h5 1)) ∧
      ∀ (h7 : kM), kS1 1 h5 h7 →
      (vp_in v4 10) ∧
      ∀ h9 : kM, h9 = kU h7 73 (v4).toNatClampNeg (kWn (kVw h5 1) (1 : Int32) ((h5 1 13) + v4)) →
      at_X3_find_19 G d Q v2 v3 (v4 + (1 : Int32)) h9
    ))) : at_X3_find_19 G d Q v2 v3 v4 h := by
  show Wp G d m_X3_find (kEo G d m_X3_find Q) 19 [.ref 71, .ref 1, .int v2, .int v3, .int v4, .null] [] h
  refine wp_iload 21 dX3_find_19 rfl rfl ?_
  refine wp_aload_n 22 dX3_find_21 rfl rfl ?_
  refine wp_getI 25 dX3_find_22 rfl fl_X3_32 kd_71 rfl ?_
  refine wp_icmp_ge 72 28 dX3_find_25 rfl rfl ⟨fun c1 => ?_, fun c1 => ?_⟩
  · replace H := H.1 c1
    refine wp_iconst (0 : Int32) 73 dX3_find_72 kiconst_0 rfl ?_
    refine wp_istore 75 dX3_find_73 rfl (Nat.le_of_ble_eq_true rfl) rfl ?_
    exact H
  · replace H := H.2 c1
    refine wp_aload_n 29 dX3_find_28 rfl rfl ?_
    refine wp_getR 1 72 32 dX3_find_29 rfl fl_X3_9 kd_71 rfl rfl rfl rfl ?_
    refine wp_iload 34 dX3_find_32 rfl rfl ?_
    refine wp_aload_n 35 dX3_find_34 rfl rfl ?_
    refine wp_iconst (0 : Int32) 36 dX3_find_35 kiconst_0 rfl ?_
    refine wp_aload_n 37 dX3_find_36 rfl rfl ?_
    refine wp_getI 40 dX3_find_37 rfl fl_X3_35 kd_1 rfl ?_
    refine wp_iload 42 dX3_find_40 rfl rfl ?_
    refine wp_iadd 43 dX3_find_42 rfl ?_
    have c2 := H.1; replace H := H.2
    refine wp_cV (d - 1) 2 [.int (0 : Int32), .int ((h 1 13) + v4)] [.int v4, .ref 72] 46 dX3_find_43 rfl (lk_X3_40 rfl) (by omega) kd_1 rfl rfl rfl (Nat.le_of_ble_eq_true rfl) (sp_X2_windAt (by omega) kSea_is1 c2 (fun h3 eh3 => ?_))
    replace H := H h3 eh3
    have c4 := H.1; replace H := H.2
    refine wp_iast 47 dX3_find_46 rfl kd_72 c4 ?_
    refine wp_nm (fun h5 eh5 => ?_)
    replace H := H h5 eh5
    refine wp_aload_n 48 dX3_find_47 rfl rfl ?_
    refine wp_getR 2 73 51 dX3_find_48 rfl fl_X3_15 kd_71 rfl rfl rfl rfl ?_
    refine wp_iload 53 dX3_find_51 rfl rfl ?_
    refine wp_aload_n 54 dX3_find_53 rfl rfl ?_
    refine wp_iconst (1 : Int32) 55 dX3_find_54 kiconst_1 rfl ?_
    refine wp_aload_n 56 dX3_find_55 rfl rfl ?_
    refine wp_getI 59 dX3_find_56 rfl fl_X3_35 kd_1 rfl ?_
    refine wp_iload 61 dX3_find_59 rfl rfl ?_
    refine wp_iadd 62 dX3_find_61 rfl ?_
    have c6 := H.1; replace H := H.2
    refine wp_cV (d - 1) 2 [.int (1 : Int32), .int ((h5 1 13) + v4)] [.int v4, .ref 73] 65 dX3_find_62 rfl (lk_X3_40 rfl) (by omega) kd_1 rfl rfl rfl (Nat.le_of_ble_eq_true rfl) (sp_X2_windAt (by omega) kSea_is1 c6 (fun h7 eh7 => ?_))
    replace H := H h7 eh7
    have c8 := H.1; replace H := H.2
    refine wp_iast 66 dX3_find_65 rfl kd_73 c8 ?_
    refine wp_nm (fun h9 eh9 => ?_)
    replace H := H h9 eh9
    refine wp_iinc (1 : Int32) 69 dX3_find_66 rfl rfl kiconst_1 (Nat.le_of_ble_eq_true rfl) rfl ?_
    refine wp_goto 19 dX3_find_69 rfl ?_
    exact H

theorem sg_X3_find_75 {G : kG} {d : Nat} {Q : Int32 → kM → Prop}  {v2 : Int32} {v3 : Int32} {v4 : Int32} {h : kM} (hd : 6 ≤ d)  (H :
    (((3 : Int32) ≤ v4 →
      ∀ h2 : kM, h2 = kU h 71 6 (3 : Int32) →
      ∀ h3 : kM, h3 = kU h2 71 7 (v3 + (1 : Int32)) →
      ∀ h4 : kM, h4 = kU h3 71 8 (0 : Int32) →
      ∀ h5 : kM, h5 = kU h4 71 9 (3 : Int32) →
      (vp_in v2 5) ∧
      Cal G (d - 1) m_X3_goOn [.ref 71, .ref 1, .int (0 : Int32), .int (h5 4 (v2).toNatClampNeg), .int (0 : Int32)] h5 (fun x7 h8 =>
        Q 0 h8
      )
    ) ∧ (¬ ((3 : Int32) ≤ v4) →
      (vp_in v4 3) ∧
      ∀ h10 : kM, h10 = kU h 75 (v4).toNatClampNeg (-1 : Int32) →
      at_X3_find_92 G d Q v2 v3 v4 (0 : Int32) h10
    ))) : at_X3_find_75 G d Q v2 v3 v4 h := by
  show Wp G d m_X3_find (kEo G d m_X3_find Q) 75 [.ref 71, .ref 1, .int v2, .int v3, .int v4, .null] [] h
  refine wp_iload 77 dX3_find_75 rfl rfl ?_
  refine wp_iconst (3 : Int32) 78 dX3_find_77 kiconst_3 rfl ?_
  refine wp_icmp_ge 138 81 dX3_find_78 rfl rfl ⟨fun c1 => ?_, fun c1 => ?_⟩
  · replace H := H.1 c1
    refine wp_aload_n 139 dX3_find_138 rfl rfl ?_
    refine wp_iconst (3 : Int32) 140 dX3_find_139 kiconst_3 rfl ?_
    refine wp_putI 143 dX3_find_140 rfl fl_X3_47 fin_3_6 kd_71 rfl ?_
    refine wp_nm (fun h2 eh2 => ?_)
    replace H := H h2 eh2
    refine wp_aload_n 144 dX3_find_143 rfl rfl ?_
    refine wp_iload_n 145 dX3_find_144 rfl rfl ?_
    refine wp_iconst (1 : Int32) 146 dX3_find_145 kiconst_1 rfl ?_
    refine wp_iadd 147 dX3_find_146 rfl ?_
    refine wp_putI 150 dX3_find_147 rfl fl_X3_50 fin_3_7 kd_71 rfl ?_
    refine wp_nm (fun h3 eh3 => ?_)
    replace H := H h3 eh3
    refine wp_aload_n 151 dX3_find_150 rfl rfl ?_
    refine wp_iconst (0 : Int32) 152 dX3_find_151 kiconst_0 rfl ?_
    refine wp_putI 155 dX3_find_152 rfl fl_X3_53 fin_3_8 kd_71 rfl ?_
    refine wp_nm (fun h4 eh4 => ?_)
    replace H := H h4 eh4
    refine wp_aload_n 156 dX3_find_155 rfl rfl ?_
    refine wp_iconst (3 : Int32) 157 dX3_find_156 kiconst_3 rfl ?_
    refine wp_putI 160 dX3_find_157 rfl fl_X3_56 fin_3_9 kd_71 rfl ?_
    refine wp_nm (fun h5 eh5 => ?_)
    replace H := H h5 eh5
    refine wp_aload_n 161 dX3_find_160 rfl rfl ?_
    refine wp_aload_n 162 dX3_find_161 rfl rfl ?_
    refine wp_iconst (0 : Int32) 163 dX3_find_162 kiconst_0 rfl ?_
    refine wp_aload_n 164 dX3_find_163 rfl rfl ?_
    refine wp_getR 3 4 167 dX3_find_164 rfl fl_X3_59 kd_1 rfl rfl rfl rfl ?_
    refine wp_iload_n 168 dX3_find_167 rfl rfl ?_
    have c6 := H.1; replace H := H.2
    refine wp_iald 169 dX3_find_168 rfl kd_4 c6 ?_
    refine wp_iconst (0 : Int32) 170 dX3_find_169 kiconst_0 rfl ?_
    refine wp_cV (d - 1) 4 [.ref 1, .int (0 : Int32), .int (h5 4 (v2).toNatClampNeg), .int (0 : Int32)] [] 173 dX3_find_170 rfl (lk_X3_62 rfl) (by omega) kd_71 rfl rfl rfl (Nat.le_of_ble_eq_true rfl) (H.mono (fun x7 h8 H => ?_))
    exact wp_retv dX3_find_173 rfl H
  · replace H := H.2 c1
    refine wp_aload_n 82 dX3_find_81 rfl rfl ?_
    refine wp_getR 4 75 85 dX3_find_82 rfl fl_X3_21 kd_71 rfl rfl rfl rfl ?_
    refine wp_iload 87 dX3_find_85 rfl rfl ?_
    refine wp_iconst (-1 : Int32) 88 dX3_find_87 kiconst_m1 rfl ?_
    have c9 := H.1; replace H := H.2
    refine wp_iast 89 dX3_find_88 rfl kd_75 c9 ?_
    refine wp_nm (fun h10 eh10 => ?_)
    replace H := H h10 eh10
    refine wp_iconst (0 : Int32) 90 dX3_find_89 kiconst_0 rfl ?_
    refine wp_istore 92 dX3_find_90 rfl (Nat.le_of_ble_eq_true rfl) rfl ?_
    exact H

theorem sg_X3_find_92 {G : kG} {d : Nat} {Q : Int32 → kM → Prop}  {v2 : Int32} {v3 : Int32} {v4 : Int32} {v5 : Int32} {h : kM} (hd : 6 ≤ d)  (H :
    (((h 71 5) ≤ v5 →
      at_X3_find_75 G d Q v2 v3 (v4 + (1 : Int32)) h
    ) ∧ (¬ ((h 71 5) ≤ v5) →
      (vp_in (((3 : Int32) * v2) + v4) 15 ∧ kTxtOk h (1 + 11)) ∧
      ∀ (h3 : kM), kS1 1 h h3 →
      (vp_in (((10 : Int32) * v4) + v5) 30) ∧
      ∀ h5 : kM, h5 = kU h3 74 ((((10 : Int32) * v4) + v5)).toNatClampNeg (kFo (kVw h 1) ((((3 : Int32) * v2) + v4)).toNatClampNeg v5) →
      at_X3_find_92 G d Q v2 v3 v4 (v5 + (1 : Int32)) h5
    ))) : at_X3_find_92 G d Q v2 v3 v4 v5 h := by
  show Wp G d m_X3_find (kEo G d m_X3_find Q) 92 [.ref 71, .ref 1, .int v2, .int v3, .int v4, .int v5] [] h
  refine wp_iload 94 dX3_find_92 rfl rfl ?_
  refine wp_aload_n 95 dX3_find_94 rfl rfl ?_
  refine wp_getI 98 dX3_find_95 rfl fl_X3_32 kd_71 rfl ?_
  refine wp_icmp_ge 132 101 dX3_find_98 rfl rfl ⟨fun c1 => ?_, fun c1 => ?_⟩
  · replace H := H.1 c1
    refine wp_iinc (1 : Int32) 135 dX3_find_132 rfl rfl kiconst_1 (Nat.le_of_ble_eq_true rfl) rfl ?_
    refine wp_goto 75 dX3_find_135 rfl ?_
    refine wp_drop 5 ?_
    exact H
  · replace H := H.2 c1
    refine wp_aload_n 102 dX3_find_101 rfl rfl ?_
    refine wp_getR 3 74 105 dX3_find_102 rfl fl_X3_18 kd_71 rfl rfl rfl rfl ?_
    refine wp_bipush (10 : Int32) 107 dX3_find_105 kbipush_10 rfl ?_
    refine wp_iload 109 dX3_find_107 rfl rfl ?_
    refine wp_imul 110 dX3_find_109 rfl ?_
    refine wp_iload 112 dX3_find_110 rfl rfl ?_
    refine wp_iadd 113 dX3_find_112 rfl ?_
    refine wp_aload_n 114 dX3_find_113 rfl rfl ?_
    refine wp_iconst (3 : Int32) 115 dX3_find_114 kiconst_3 rfl ?_
    refine wp_iload_n 116 dX3_find_115 rfl rfl ?_
    refine wp_imul 117 dX3_find_116 rfl ?_
    refine wp_iload 119 dX3_find_117 rfl rfl ?_
    refine wp_iadd 120 dX3_find_119 rfl ?_
    refine wp_iload 122 dX3_find_120 rfl rfl ?_
    have c2 := H.1; replace H := H.2
    refine wp_cV (d - 1) 2 [.int (((3 : Int32) * v2) + v4), .int v5] [.int (((10 : Int32) * v4) + v5), .ref 74] 125 dX3_find_122 rfl (lk_X3_44 rfl) (by omega) kd_1 rfl rfl rfl (Nat.le_of_ble_eq_true rfl) (sp_X2_force (by omega) kSea_is1 c2 (fun h3 eh3 => ?_))
    replace H := H h3 eh3
    have c4 := H.1; replace H := H.2
    refine wp_iast 126 dX3_find_125 rfl kd_74 c4 ?_
    refine wp_nm (fun h5 eh5 => ?_)
    replace H := H h5 eh5
    refine wp_iinc (1 : Int32) 129 dX3_find_126 rfl rfl kiconst_1 (Nat.le_of_ble_eq_true rfl) rfl ?_
    refine wp_goto 92 dX3_find_129 rfl ?_
    exact H

theorem kHeld_10 {n : Nat} (hn : n ≤ 10) : kHeld (nI n) 0 10 = nI n := by
  unfold kHeld
  have e1 : (if nI n < 10 then nI n else 10) = nI n := by
    by_cases e : n = 10
    · subst e
      decide
    · have l : nI n < 10 := nI_lt (b := 10) (by omega) (by decide)
      rw [if_pos l]
  rw [e1]
  by_cases e : n = 0
  · subst e
    decide
  · have l : 0 < nI n := nI_lt (a := 0) (by omega) (by omega)
    rw [if_pos l]
theorem sp_X3_find (hd : 16 ≤ d) {p n : Nat} {g : Nat → Int32} {ns H f w : Nat} (hS : kSRn (kVw h 1) g ns H f w) (hp : p < ns) (hn1 : 1 ≤ n) (hn : n ≤ 10) (kk : ∀ h1 b, (∀ a, ¬ (71 ≤ a ∧ a ≤ 75) → a ≠ 14 → a ≠ 17 → h1 a = h a) → kBs n h1 b → b.1 ≤ 11 → b.2.1 ≤ 10 → kPo (kOut (kVw h 1) p n 0 (kSh (kVw h 1) p 0) (fun _ => -1) 0 0) (n + 1, 0, 0) b → Q 0 h1) : Cal G d m_X3_find [.ref 71, .ref 1, .int (nI p), .int (nI n)] h Q := by
  have hns := hS.1.1
  let F : kM → Prop := fun h1 => (∀ a, ¬ (71 ≤ a ∧ a ≤ 75) → a ≠ 14 → a ≠ 17 → h1 a = h a) ∧ h1 71 4 = nI p ∧ h1 71 5 = nI n
  have Feq : ∀ h1, F h1 → kVEq (kVw h 1) (kVw h1 1) := fun h1 q a x y => q.1 (1 + a) (by omega) (by omega) (by omega)
  have Fs1 : ∀ h1 h2, F h1 → kS1 1 h1 h2 → F h2 := fun h1 h2 q s => ⟨fun a x y z => by rw [s a y z, q.1 a x y z], by rw [s 71 (by decide) (by decide), q.2.1], by rw [s 71 (by decide) (by decide), q.2.2]⟩
  have Fu : ∀ h1 h2 c j y, 72 ≤ c → c ≤ 75 → F h1 → h2 = kU h1 c j y → F h2 := fun h1 h2 c j y c1 c2 q e => ⟨fun a x y z => by rw [e, kU_ne (by omega), q.1 a x y z], by rw [e, kU_ne (by omega), q.2.1], by rw [e, kU_ne (by omega), q.2.2]⟩
  let W : Nat → kM → Prop := fun T h1 => ∀ t, t < T → h1 72 t = kWn (kVw h 1) 0 (kVw h 1 0 13 + nI t) ∧ h1 73 t = kWn (kVw h 1) 1 (kVw h 1 0 13 + nI t)
  -- since, forces
  have l75 : ∀ (m k : Nat) (h1 : kM), k + m = 3 → F h1 → W n h1 → (∀ i, i < k → h1 75 i = -1) → (∀ i, i < k → ∀ j, j < n → h1 74 (10 * i + j) = kFo (kVw h 1) (3 * p + i) (nI j)) → at_X3_find_75 G d Q (nI p) (nI n) (nI k) h1 := by
    intro m
    induction m with
    | zero =>
      intro k h1 hk q q2 q3 q4
      have hk3 : k = 3 := by omega
      subst hk3
      refine sg_X3_find_75 (by omega) ⟨fun _ h2 e2 h3 e3 h4 e4 h5 e5 => ⟨vp_in_nI (by omega) (by decide), ?_⟩, fun z => absurd (nI_le (Nat.le_refl 3) (by decide)) z⟩
      have o5 : ∀ a, a ≠ 71 → h5 a = h1 a := fun a ha => by rw [e5, kU_ne ha, e4, kU_ne ha, e3, kU_ne ha, e2, kU_ne ha]
      have c5 : h5 71 = upd (upd (upd (upd (h1 71) 6 3) 7 (nI n + 1)) 8 0) 9 3 := by rw [e5, kU_eq, e4, kU_eq, e3, kU_eq, e2, kU_eq]
      have l := kSh_pl hS hp (i := 0) (by have := hS.2.1.1; omega)
      have e4p : h5 4 p = kPl (kSh (kVw h 1) p 0) := by rw [o5 4 (by decide), q.1 4 (by decide) (by decide) (by decide)]; exact l.1
      rw [nI_clamp (by omega), e4p]
      have c : kSc h h5 p n (fun _ => -1) := by
        refine ⟨fun a x y z => by rw [o5 a (by omega), q.1 a x y z], ?_, ?_, fun t ht => ?_, fun i hi j hj => ?_, fun i hi => ?_⟩
        · rw [c5, pk_un (by decide), pk_un (by decide), pk_un (by decide), pk_un (by decide), q.2.1]
        · rw [c5, pk_un (by decide), pk_un (by decide), pk_un (by decide), pk_un (by decide), q.2.2]
        · rw [o5 72 (by decide), o5 73 (by decide)]
          exact q2 t ht
        · rw [o5 74 (by decide)]
          exact q4 i hi j hj
        · rw [o5 75 (by decide)]
          exact q3 i hi
      refine sp_X3_goOn hS hp hn n 0 (d := d - 1) _ (fun _ => -1) 0 0 (n + 1, 0, 0) h5 (by omega) (by omega) c (fun _ _ => Or.inl rfl) l.2.1 l.2.2 (Nat.le_refl 0) (by decide) ⟨?_, ?_, fun z => absurd z (by show ¬ n + 1 ≤ n; omega)⟩ (by show n + 1 ≤ 11; omega) (by show 0 ≤ 10; decide) ?_ (fun _ z => absurd z (by show ¬ n + 1 ≤ n; omega)) (fun h6 b c6 B6 w1 w2 _ P6 _ => ?_)
      · rw [c5, pk_un (by decide), pk_un (by decide), pk_us, nI_1]
      · rw [c5, pk_un (by decide), pk_us]
        exact nI_0.symm
      · rw [c5, pk_un (by decide), pk_un (by decide), pk_un (by decide), pk_us]
        rfl
      · exact kk h6 b c6.1 B6 w1 w2 P6
    | succ m ih =>
      intro k h1 hk q q2 q3 q4
      refine sg_X3_find_75 (by omega) ⟨fun z => absurd z (ltn (nI_lt (b := 3) (by omega) (by decide))), fun _ => ⟨vp_in_nI (by omega) (by decide), fun h10 e10 => ?_⟩⟩
      rw [nI_clamp (by omega)] at e10
      have l92 : ∀ (u j : Nat) (h2 : kM), j + u = n → F h2 → W n h2 → (∀ i, i < k + 1 → h2 75 i = -1) → (∀ i, i < k → ∀ j, j < n → h2 74 (10 * i + j) = kFo (kVw h 1) (3 * p + i) (nI j)) → (∀ i, i < j → h2 74 (10 * k + i) = kFo (kVw h 1) (3 * p + k) (nI i)) → at_X3_find_92 G d Q (nI p) (nI n) (nI k) (nI j) h2 := by
        intro u
        induction u with
        | zero =>
          intro j h2 hj r1 r2 r3 r4 r5
          have hj2 : j = n := by omega
          subst hj2
          refine sg_X3_find_92 (by omega) ⟨fun _ => ?_, fun z => absurd (by rw [r1.2.2]; exact nI_le (Nat.le_refl _) (by omega)) z⟩
          rw [nI_1]
          refine ih (k + 1) h2 (by omega) r1 r2 r3 (fun i hi j hj => ?_)
          by_cases e : i = k
          · subst e
            exact r5 j hj
          · exact r4 i (by omega) j hj
        | succ u jh =>
          intro j h2 hj r1 r2 r3 r4 r5
          have ok2 := hS.ok.eq (Feq h2 r1)
          refine sg_X3_find_92 (by omega) ⟨fun z => absurd z (by rw [r1.2.2]; exact ltn (nI_lt (by omega) (by omega))), fun _ => ?_⟩
          have e10 : (10 : Int32) * nI k + nI j = nI (10 * k + j) := by
            show nI 10 * nI k + nI j = _
            rw [pk_mul, nI_add]
          rw [ix3, e10, nI_clamp (n := 10 * k + j) (by omega), nI_clamp (n := 3 * p + k) (by omega), kFo_e (Feq h2 r1), nI_1]
          refine ⟨⟨vp_in_nI (by omega) (by decide), ok2.2.1⟩, fun h3 s3 => ⟨vp_in_nI (by omega) (by decide), fun h5 e5 => ?_⟩⟩
          have o5 : ∀ a, a ≠ 74 → a ≠ 14 → a ≠ 17 → h5 a = h2 a := fun a x y z => by rw [e5, kU_ne x, s3 a y z]
          refine jh (j + 1) h5 (by omega) (Fu h3 h5 74 _ _ (by decide) (by decide) (Fs1 h2 h3 r1 s3) e5) (fun t ht => ?_) (fun i hi => by rw [o5 75 (by decide) (by decide) (by decide)]; exact r3 i hi) (fun i hi j' hj' => ?_) (fun i hi => ?_)
          · rw [o5 72 (by decide) (by decide) (by decide), o5 73 (by decide) (by decide) (by decide)]
            exact r2 t ht
          · rw [e5, kU_eq, pk_un (by omega), s3 74 (by decide) (by decide)]
            exact r4 i hi j' hj'
          · rw [e5, kU_eq]
            by_cases e : i = j
            · rw [e, pk_us]
            · rw [pk_un (by omega), s3 74 (by decide) (by decide)]
              exact r5 i (by omega)
      refine l92 n 0 h10 (by omega) (Fu h1 h10 75 _ _ (by decide) (by decide) q e10) (fun t ht => ?_) (fun i hi => ?_) (fun i hi j hj => ?_) (fun i hi => absurd hi (Nat.not_lt_zero i))
      · rw [e10, kU_ne (by decide), kU_ne (by decide)]
        exact q2 t ht
      · rw [e10, kU_eq]
        by_cases e : i = k
        · rw [e, pk_us]
        · rw [pk_un e]
          exact q3 i (by omega)
      · rw [e10, kU_ne (by decide)]
        exact q4 i hi j hj
  have l19 : ∀ (m t : Nat) (h1 : kM), t + m = n → F h1 → W t h1 → at_X3_find_19 G d Q (nI p) (nI n) (nI t) h1 := by
    intro m
    induction m with
    | zero =>
      intro t h1 ht q q2
      have ht2 : t = n := by omega
      subst ht2
      exact sg_X3_find_19 (by omega) ⟨fun _ => l75 3 0 h1 (by omega) q q2 (fun i hi => absurd hi (Nat.not_lt_zero i)) (fun i hi => absurd hi (Nat.not_lt_zero i)), fun z => absurd (by rw [q.2.2]; exact nI_le (Nat.le_refl _) (by omega)) z⟩
    | succ m ih =>
      intro t h1 ht q q2
      have ev := Feq h1 q
      have ok1 := hS.ok.eq ev
      have v10 : vp_in (nI t) 10 := vp_in_nI (by omega) (by decide)
      have e13 : h1 1 13 = kVw h 1 0 13 := by rw [q.1 1 (by decide) (by decide) (by decide)]; rfl
      refine sg_X3_find_19 (by omega) ⟨fun z => absurd z (by rw [q.2.2]; exact ltn (nI_lt (by omega) (by omega))), fun _ => ⟨⟨by unfold vp_in; decide, ok1⟩, fun h3 s3 => ⟨v10, fun h5 e5 => ?_⟩⟩⟩
      have q5 := Fu h3 h5 72 _ _ (by decide) (by decide) (Fs1 h1 h3 q s3) e5
      have ev5 := Feq h5 q5
      refine ⟨⟨by unfold vp_in; decide, hS.ok.eq ev5⟩, fun h7 s7 => ⟨v10, fun h9 e9 => ?_⟩⟩
      rw [kWn_eq ev, e13, nI_clamp (by omega)] at e5
      rw [kWn_eq ev5, q5.1 1 (by decide) (by decide) (by decide), show h 1 13 = kVw h 1 0 13 from rfl, nI_clamp (by omega)] at e9
      rw [nI_1]
      refine ih (t + 1) h9 (by omega) (Fu h7 h9 73 _ _ (by decide) (by decide) (Fs1 h5 h7 q5 s7) e9) (fun u hu => ?_)
      have c72 : h9 72 u = upd (h1 72) t (kWn (kVw h 1) 0 (kVw h 1 0 13 + nI t)) u := by rw [e9, kU_ne (by decide), s7 72 (by decide) (by decide), e5, kU_eq, s3 72 (by decide) (by decide)]
      have c73 : h9 73 u = upd (h1 73) t (kWn (kVw h 1) 1 (kVw h 1 0 13 + nI t)) u := by rw [e9, kU_eq, s7 73 (by decide) (by decide), e5, kU_ne (by decide), s3 73 (by decide) (by decide)]
      rw [c72, c73]
      by_cases e : u = t
      · rw [e, pk_us, pk_us]
        exact ⟨rfl, rfl⟩
      · rw [pk_un e, pk_un e]
        exact q2 u (by omega)
  refine cg_X3_find (by omega) (fun h1 e1 h2 e2 => ?_)
  rw [kHeld_10 hn] at e2
  refine l19 n 0 h2 (by omega) ⟨fun a x y z => by rw [e2, kU_ne (by omega), e1, kU_ne (by omega)], by rw [e2, kU_eq, pk_un (by decide), e1, kU_eq, pk_us], by rw [e2, kU_eq, pk_us]⟩ (fun t ht => absurd ht (Nat.not_lt_zero t))
end Find

