/-! the model reads a text -/
section MRead
variable {G : kG} {d : Nat} {Q : Int32 → kM → Prop} {h : kM}
def at_X8_one_46 (G : kG) (d : Nat) (Q : Int32 → kM → Prop)  (v1 : Int32) (v2 : Int32) (v3 : Int32) (h : kM) : Prop := Wp G d m_X8_one (kEo G d m_X8_one Q) 46 [.ref 88, .int v1, .int v2, .int v3] [] h
theorem sg_X8_one_0 {G : kG} {d : Nat} {Q : Int32 → kM → Prop}   {h : kM} (hd : 3 ≤ d)  (H :
    (okL h) ∧
    (((kb (mNm (h 88 9) (mLook h))) = 0 →
      (((kb ((48 : Int32) ≤ (mLook h) ∧ (mLook h) ≤ (57 : Int32))) = 0 →
        ((¬ (mLook h) = (33 : Int32) →
          ((¬ (mLook h) = (40 : Int32) →
            Q (0 : Int32) h
          ) ∧ ((mLook h) = (40 : Int32) →
            ∀ h6 : kM, h6 = mOpen h →
            (((kb (¬ h 88 7 = 5)) = 0 →
              Q (0 : Int32) h6
            ) ∧ (¬ ((kb (¬ h 88 7 = 5)) = 0) →
              Cal G (d - 1) m_X8_whole [.ref 88] h6 (fun x8 h9 =>
                ((x8 = 0 →
                  Q (0 : Int32) h9
                ) ∧ (¬ (x8 = 0) →
                  (okL h9) ∧
                  (((mLook h9) = (41 : Int32) →
                    ∀ h13 : kM, h13 = kU h9 88 6 ((h9 88 6) + (1 : Int32)) →
                    ∀ h14 : kM, h14 = kU h13 88 7 ((h13 88 7) - (1 : Int32)) →
                    Q (1 : Int32) h14
                  ) ∧ (¬ ((mLook h9) = (41 : Int32)) →
                    Q (0 : Int32) h9
                  ))
                ))
              )
            ))
          ))
        ) ∧ ((mLook h) = (33 : Int32) →
          ∀ h15 : kM, h15 = mOpen h →
          (((kb (¬ h 88 7 = 5)) = 0 →
            Q (0 : Int32) h15
          ) ∧ (¬ ((kb (¬ h 88 7 = 5)) = 0) →
            Cal G (d - 1) m_X8_one [.ref 88] h15 (fun x17 h18 =>
              ((¬ x17 = 0 →
                ∀ h20 : kM, h20 = kU h18 88 7 ((h18 88 7) - (1 : Int32)) →
                (okS h20) ∧
                ∀ h22 : kM, h22 = mStep h20 (2 : Int32) (0 : Int32) →
                Q (1 : Int32) h22
              ) ∧ (x17 = 0 →
                Q (0 : Int32) h18
              ))
            )
          ))
        ))
      ) ∧ (¬ ((kb ((48 : Int32) ≤ (mLook h) ∧ (mLook h) ≤ (57 : Int32))) = 0) →
        at_X8_one_46 G d Q (mLook h) (0 : Int32) (0 : Int32) h
      ))
    ) ∧ (¬ ((kb (mNm (h 88 9) (mLook h))) = 0) →
      ∀ h23 : kM, h23 = kU h 88 6 ((h 88 6) + (1 : Int32)) →
      (okS h23) ∧
      ∀ h25 : kM, h25 = mStep h23 (1 : Int32) (mLook h) →
      Q (1 : Int32) h25
    ))) : Wp G d m_X8_one (kEo G d m_X8_one Q) 0 [.ref 88, .null, .null, .null] [] h := by
  refine wp_aload_n 1 dX8_one_0 rfl rfl ?_
  have c1 := H.1; replace H := H.2
  refine wp_cV (d - 1) 0 [] [] 4 dX8_one_1 rfl (lk_X8_82 rfl) (by omega) kd_88 rfl rfl rfl (Nat.le_of_ble_eq_true rfl) (sp_X8_look (by omega) c1 ?_)
  refine wp_istore_n 5 dX8_one_4 rfl (Nat.le_of_ble_eq_true rfl) rfl ?_
  refine wp_aload_n 6 dX8_one_5 rfl rfl ?_
  refine wp_iload_n 7 dX8_one_6 rfl rfl ?_
  refine wp_cV (d - 1) 1 [.int (mLook h)] [] 10 dX8_one_7 rfl (lk_X8_105 rfl) (by omega) kd_88 rfl rfl rfl (Nat.le_of_ble_eq_true rfl) (sp_X8_isName (by omega)  ?_)
  refine wp_if_eq 31 13 dX8_one_10 rfl rfl ⟨fun c2 => ?_, fun c2 => ?_⟩
  · replace H := H.1 c2
    refine wp_iload_n 32 dX8_one_31 rfl rfl ?_
    refine wp_bipush (48 : Int32) 34 dX8_one_32 kbipush_48 rfl ?_
    refine wp_bipush (57 : Int32) 36 dX8_one_34 kbipush_57 rfl ?_
    refine wp_cS (d - 1) 3 [.int (mLook h), .int (48 : Int32), .int (57 : Int32)] [] 39 dX8_one_36 rfl (lk_X8_50 rfl) (by omega) rfl rfl (Nat.le_of_ble_eq_true rfl) (sp_X8_in (by omega)  ?_)
    refine wp_if_eq 102 42 dX8_one_39 rfl rfl ⟨fun c3 => ?_, fun c3 => ?_⟩
    · replace H := H.1 c3
      refine wp_iload_n 103 dX8_one_102 rfl rfl ?_
      refine wp_bipush (33 : Int32) 105 dX8_one_103 kbipush_33 rfl ?_
      refine wp_icmp_ne 142 108 dX8_one_105 rfl rfl ⟨fun c4 => ?_, fun c4 => ?_⟩
      · replace H := H.1 c4
        refine wp_iload_n 143 dX8_one_142 rfl rfl ?_
        refine wp_bipush (40 : Int32) 145 dX8_one_143 kbipush_40 rfl ?_
        refine wp_icmp_ne 171 148 dX8_one_145 rfl rfl ⟨fun c5 => ?_, fun c5 => ?_⟩
        · replace H := H.1 c5
          refine wp_iconst (0 : Int32) 172 dX8_one_171 kiconst_0 rfl ?_
          exact wp_retz dX8_one_172 rfl (Or.inl rfl) H
        · replace H := H.2 c5
          refine wp_aload_n 149 dX8_one_148 rfl rfl ?_
          refine wp_cV (d - 1) 0 [] [] 152 dX8_one_149 rfl (lk_X8_108 rfl) (by omega) kd_88 rfl rfl rfl (Nat.le_of_ble_eq_true rfl) (sp_X8_opens (by omega)  (fun h6 eh6 => ?_))
          replace H := H h6 eh6
          refine wp_if_eq 171 155 dX8_one_152 rfl rfl ⟨fun c7 => ?_, fun c7 => ?_⟩
          · replace H := H.1 c7
            refine wp_iconst (0 : Int32) 172 dX8_one_171 kiconst_0 rfl ?_
            exact wp_retz dX8_one_172 rfl (Or.inl rfl) H
          · replace H := H.2 c7
            refine wp_aload_n 156 dX8_one_155 rfl rfl ?_
            refine wp_cV (d - 1) 0 [] [] 159 dX8_one_156 rfl (lk_X8_111 rfl) (by omega) kd_88 rfl rfl rfl (Nat.le_of_ble_eq_true rfl) (H.mono (fun x8 h9 H => ?_))
            refine wp_if_eq 171 162 dX8_one_159 rfl rfl ⟨fun c10 => ?_, fun c10 => ?_⟩
            · replace H := H.1 c10
              refine wp_iconst (0 : Int32) 172 dX8_one_171 kiconst_0 rfl ?_
              exact wp_retz dX8_one_172 rfl (Or.inl rfl) H
            · replace H := H.2 c10
              refine wp_aload_n 163 dX8_one_162 rfl rfl ?_
              have c11 := H.1; replace H := H.2
              refine wp_cV (d - 1) 0 [] [] 166 dX8_one_163 rfl (lk_X8_82 rfl) (by omega) kd_88 rfl rfl rfl (Nat.le_of_ble_eq_true rfl) (sp_X8_look (by omega) c11 ?_)
              refine wp_bipush (41 : Int32) 168 dX8_one_166 kbipush_41 rfl ?_
              refine wp_icmp_eq 173 171 dX8_one_168 rfl rfl ⟨fun c12 => ?_, fun c12 => ?_⟩
              · replace H := H.1 c12
                refine wp_aload_n 174 dX8_one_173 rfl rfl ?_
                refine wp_dup 175 dX8_one_174 rfl rfl ?_
                refine wp_getI 178 dX8_one_175 rfl fl_X8_68 kd_88 rfl ?_
                refine wp_iconst (1 : Int32) 179 dX8_one_178 kiconst_1 rfl ?_
                refine wp_iadd 180 dX8_one_179 rfl ?_
                refine wp_putI 183 dX8_one_180 rfl fl_X8_68 fin_8_6 kd_88 rfl ?_
                refine wp_nm (fun h13 eh13 => ?_)
                replace H := H h13 eh13
                refine wp_aload_n 184 dX8_one_183 rfl rfl ?_
                refine wp_dup 185 dX8_one_184 rfl rfl ?_
                refine wp_getI 188 dX8_one_185 rfl fl_X8_102 kd_88 rfl ?_
                refine wp_iconst (1 : Int32) 189 dX8_one_188 kiconst_1 rfl ?_
                refine wp_isub 190 dX8_one_189 rfl ?_
                refine wp_putI 193 dX8_one_190 rfl fl_X8_102 fin_8_7 kd_88 rfl ?_
                refine wp_nm (fun h14 eh14 => ?_)
                replace H := H h14 eh14
                refine wp_iconst (1 : Int32) 194 dX8_one_193 kiconst_1 rfl ?_
                exact wp_retz dX8_one_194 rfl (Or.inr rfl) H
              · replace H := H.2 c12
                refine wp_iconst (0 : Int32) 172 dX8_one_171 kiconst_0 rfl ?_
                exact wp_retz dX8_one_172 rfl (Or.inl rfl) H
      · replace H := H.2 c4
        refine wp_aload_n 109 dX8_one_108 rfl rfl ?_
        refine wp_cV (d - 1) 0 [] [] 112 dX8_one_109 rfl (lk_X8_108 rfl) (by omega) kd_88 rfl rfl rfl (Nat.le_of_ble_eq_true rfl) (sp_X8_opens (by omega)  (fun h15 eh15 => ?_))
        replace H := H h15 eh15
        refine wp_if_eq 122 115 dX8_one_112 rfl rfl ⟨fun c16 => ?_, fun c16 => ?_⟩
        · replace H := H.1 c16
          refine wp_iconst (0 : Int32) 123 dX8_one_122 kiconst_0 rfl ?_
          exact wp_retz dX8_one_123 rfl (Or.inl rfl) H
        · replace H := H.2 c16
          refine wp_aload_n 116 dX8_one_115 rfl rfl ?_
          refine wp_cV (d - 1) 0 [] [] 119 dX8_one_116 rfl (lk_X8_99 rfl) (by omega) kd_88 rfl rfl rfl (Nat.le_of_ble_eq_true rfl) (H.mono (fun x17 h18 H => ?_))
          refine wp_if_ne 124 122 dX8_one_119 rfl rfl ⟨fun c19 => ?_, fun c19 => ?_⟩
          · replace H := H.1 c19
            refine wp_aload_n 125 dX8_one_124 rfl rfl ?_
            refine wp_dup 126 dX8_one_125 rfl rfl ?_
            refine wp_getI 129 dX8_one_126 rfl fl_X8_102 kd_88 rfl ?_
            refine wp_iconst (1 : Int32) 130 dX8_one_129 kiconst_1 rfl ?_
            refine wp_isub 131 dX8_one_130 rfl ?_
            refine wp_putI 134 dX8_one_131 rfl fl_X8_102 fin_8_7 kd_88 rfl ?_
            refine wp_nm (fun h20 eh20 => ?_)
            replace H := H h20 eh20
            refine wp_aload_n 135 dX8_one_134 rfl rfl ?_
            refine wp_iconst (2 : Int32) 136 dX8_one_135 kiconst_2 rfl ?_
            refine wp_iconst (0 : Int32) 137 dX8_one_136 kiconst_0 rfl ?_
            have c21 := H.1; replace H := H.2
            refine wp_cV (d - 1) 2 [.int (2 : Int32), .int (0 : Int32)] [] 140 dX8_one_137 rfl (lk_X8_86 rfl) (by omega) kd_88 rfl rfl rfl (Nat.le_of_ble_eq_true rfl) (sp_X8_step1 (by omega) c21 (fun h22 eh22 => ?_))
            replace H := H h22 eh22
            refine wp_iconst (1 : Int32) 141 dX8_one_140 kiconst_1 rfl ?_
            exact wp_retz dX8_one_141 rfl (Or.inr rfl) H
          · replace H := H.2 c19
            refine wp_iconst (0 : Int32) 123 dX8_one_122 kiconst_0 rfl ?_
            exact wp_retz dX8_one_123 rfl (Or.inl rfl) H
    · replace H := H.2 c3
      refine wp_iconst (0 : Int32) 43 dX8_one_42 kiconst_0 rfl ?_
      refine wp_istore_n 44 dX8_one_43 rfl (Nat.le_of_ble_eq_true rfl) rfl ?_
      refine wp_iconst (0 : Int32) 45 dX8_one_44 kiconst_0 rfl ?_
      refine wp_istore_n 46 dX8_one_45 rfl (Nat.le_of_ble_eq_true rfl) rfl ?_
      exact H
  · replace H := H.2 c2
    refine wp_aload_n 14 dX8_one_13 rfl rfl ?_
    refine wp_dup 15 dX8_one_14 rfl rfl ?_
    refine wp_getI 18 dX8_one_15 rfl fl_X8_68 kd_88 rfl ?_
    refine wp_iconst (1 : Int32) 19 dX8_one_18 kiconst_1 rfl ?_
    refine wp_iadd 20 dX8_one_19 rfl ?_
    refine wp_putI 23 dX8_one_20 rfl fl_X8_68 fin_8_6 kd_88 rfl ?_
    refine wp_nm (fun h23 eh23 => ?_)
    replace H := H h23 eh23
    refine wp_aload_n 24 dX8_one_23 rfl rfl ?_
    refine wp_iconst (1 : Int32) 25 dX8_one_24 kiconst_1 rfl ?_
    refine wp_iload_n 26 dX8_one_25 rfl rfl ?_
    have c24 := H.1; replace H := H.2
    refine wp_cV (d - 1) 2 [.int (1 : Int32), .int (mLook h)] [] 29 dX8_one_26 rfl (lk_X8_86 rfl) (by omega) kd_88 rfl rfl rfl (Nat.le_of_ble_eq_true rfl) (sp_X8_step1 (by omega) c24 (fun h25 eh25 => ?_))
    replace H := H h25 eh25
    refine wp_iconst (1 : Int32) 30 dX8_one_29 kiconst_1 rfl ?_
    exact wp_retz dX8_one_30 rfl (Or.inr rfl) H

theorem cg_X8_one {G : kG} {d : Nat} {Q : Int32 → kM → Prop}   {h : kM} (hd : 3 ≤ d)  (H :
    (okL h) ∧
    (((kb (mNm (h 88 9) (mLook h))) = 0 →
      (((kb ((48 : Int32) ≤ (mLook h) ∧ (mLook h) ≤ (57 : Int32))) = 0 →
        ((¬ (mLook h) = (33 : Int32) →
          ((¬ (mLook h) = (40 : Int32) →
            Q (0 : Int32) h
          ) ∧ ((mLook h) = (40 : Int32) →
            ∀ h6 : kM, h6 = mOpen h →
            (((kb (¬ h 88 7 = 5)) = 0 →
              Q (0 : Int32) h6
            ) ∧ (¬ ((kb (¬ h 88 7 = 5)) = 0) →
              Cal G (d - 1) m_X8_whole [.ref 88] h6 (fun x8 h9 =>
                ((x8 = 0 →
                  Q (0 : Int32) h9
                ) ∧ (¬ (x8 = 0) →
                  (okL h9) ∧
                  (((mLook h9) = (41 : Int32) →
                    ∀ h13 : kM, h13 = kU h9 88 6 ((h9 88 6) + (1 : Int32)) →
                    ∀ h14 : kM, h14 = kU h13 88 7 ((h13 88 7) - (1 : Int32)) →
                    Q (1 : Int32) h14
                  ) ∧ (¬ ((mLook h9) = (41 : Int32)) →
                    Q (0 : Int32) h9
                  ))
                ))
              )
            ))
          ))
        ) ∧ ((mLook h) = (33 : Int32) →
          ∀ h15 : kM, h15 = mOpen h →
          (((kb (¬ h 88 7 = 5)) = 0 →
            Q (0 : Int32) h15
          ) ∧ (¬ ((kb (¬ h 88 7 = 5)) = 0) →
            Cal G (d - 1) m_X8_one [.ref 88] h15 (fun x17 h18 =>
              ((¬ x17 = 0 →
                ∀ h20 : kM, h20 = kU h18 88 7 ((h18 88 7) - (1 : Int32)) →
                (okS h20) ∧
                ∀ h22 : kM, h22 = mStep h20 (2 : Int32) (0 : Int32) →
                Q (1 : Int32) h22
              ) ∧ (x17 = 0 →
                Q (0 : Int32) h18
              ))
            )
          ))
        ))
      ) ∧ (¬ ((kb ((48 : Int32) ≤ (mLook h) ∧ (mLook h) ≤ (57 : Int32))) = 0) →
        at_X8_one_46 G d Q (mLook h) (0 : Int32) (0 : Int32) h
      ))
    ) ∧ (¬ ((kb (mNm (h 88 9) (mLook h))) = 0) →
      ∀ h23 : kM, h23 = kU h 88 6 ((h 88 6) + (1 : Int32)) →
      (okS h23) ∧
      ∀ h25 : kM, h25 = mStep h23 (1 : Int32) (mLook h) →
      Q (1 : Int32) h25
    ))) : Cal G d m_X8_one [.ref 88] h Q :=
  Cal.of [.ref 88, .null, .null, .null] (by decide +kernel) (Nat.le_of_ble_eq_true rfl) rfl (sg_X8_one_0 hd  H)

theorem sg_X8_one_46 {G : kG} {d : Nat} {Q : Int32 → kM → Prop}  {v1 : Int32} {v2 : Int32} {v3 : Int32} {h : kM} (hd : 3 ≤ d)  (H :
    (((4 : Int32) ≤ v3 →
      (okS h) ∧
      ∀ h3 : kM, h3 = mStep h (0 : Int32) v2 →
      Q (1 : Int32) h3
    ) ∧ (¬ ((4 : Int32) ≤ v3) →
      (okL h) ∧
      (((kb ((48 : Int32) ≤ (mLook h) ∧ (mLook h) ≤ (57 : Int32))) = 0 →
        (okS h) ∧
        ∀ h7 : kM, h7 = mStep h (0 : Int32) v2 →
        Q (1 : Int32) h7
      ) ∧ (¬ ((kb ((48 : Int32) ≤ (mLook h) ∧ (mLook h) ≤ (57 : Int32))) = 0) →
        (okL h) ∧
        ∀ h9 : kM, h9 = kU h 88 6 ((h 88 6) + (1 : Int32)) →
        at_X8_one_46 G d Q v1 ((((10 : Int32) * v2) + (mLook h)) - (48 : Int32)) (v3 + (1 : Int32)) h9
      ))
    ))) : at_X8_one_46 G d Q v1 v2 v3 h := by
  show Wp G d m_X8_one (kEo G d m_X8_one Q) 46 [.ref 88, .int v1, .int v2, .int v3] [] h
  refine wp_iload_n 47 dX8_one_46 rfl rfl ?_
  refine wp_iconst (4 : Int32) 48 dX8_one_47 kiconst_4 rfl ?_
  refine wp_icmp_ge 94 51 dX8_one_48 rfl rfl ⟨fun c1 => ?_, fun c1 => ?_⟩
  · replace H := H.1 c1
    refine wp_aload_n 95 dX8_one_94 rfl rfl ?_
    refine wp_iconst (0 : Int32) 96 dX8_one_95 kiconst_0 rfl ?_
    refine wp_iload_n 97 dX8_one_96 rfl rfl ?_
    have c2 := H.1; replace H := H.2
    refine wp_cV (d - 1) 2 [.int (0 : Int32), .int v2] [] 100 dX8_one_97 rfl (lk_X8_86 rfl) (by omega) kd_88 rfl rfl rfl (Nat.le_of_ble_eq_true rfl) (sp_X8_step1 (by omega) c2 (fun h3 eh3 => ?_))
    replace H := H h3 eh3
    refine wp_iconst (1 : Int32) 101 dX8_one_100 kiconst_1 rfl ?_
    exact wp_retz dX8_one_101 rfl (Or.inr rfl) H
  · replace H := H.2 c1
    refine wp_aload_n 52 dX8_one_51 rfl rfl ?_
    have c4 := H.1; replace H := H.2
    refine wp_cV (d - 1) 0 [] [] 55 dX8_one_52 rfl (lk_X8_82 rfl) (by omega) kd_88 rfl rfl rfl (Nat.le_of_ble_eq_true rfl) (sp_X8_look (by omega) c4 ?_)
    refine wp_bipush (48 : Int32) 57 dX8_one_55 kbipush_48 rfl ?_
    refine wp_bipush (57 : Int32) 59 dX8_one_57 kbipush_57 rfl ?_
    refine wp_cS (d - 1) 3 [.int (mLook h), .int (48 : Int32), .int (57 : Int32)] [] 62 dX8_one_59 rfl (lk_X8_50 rfl) (by omega) rfl rfl (Nat.le_of_ble_eq_true rfl) (sp_X8_in (by omega)  ?_)
    refine wp_if_eq 94 65 dX8_one_62 rfl rfl ⟨fun c5 => ?_, fun c5 => ?_⟩
    · replace H := H.1 c5
      refine wp_aload_n 95 dX8_one_94 rfl rfl ?_
      refine wp_iconst (0 : Int32) 96 dX8_one_95 kiconst_0 rfl ?_
      refine wp_iload_n 97 dX8_one_96 rfl rfl ?_
      have c6 := H.1; replace H := H.2
      refine wp_cV (d - 1) 2 [.int (0 : Int32), .int v2] [] 100 dX8_one_97 rfl (lk_X8_86 rfl) (by omega) kd_88 rfl rfl rfl (Nat.le_of_ble_eq_true rfl) (sp_X8_step1 (by omega) c6 (fun h7 eh7 => ?_))
      replace H := H h7 eh7
      refine wp_iconst (1 : Int32) 101 dX8_one_100 kiconst_1 rfl ?_
      exact wp_retz dX8_one_101 rfl (Or.inr rfl) H
    · replace H := H.2 c5
      refine wp_bipush (10 : Int32) 67 dX8_one_65 kbipush_10 rfl ?_
      refine wp_iload_n 68 dX8_one_67 rfl rfl ?_
      refine wp_imul 69 dX8_one_68 rfl ?_
      refine wp_aload_n 70 dX8_one_69 rfl rfl ?_
      have c8 := H.1; replace H := H.2
      refine wp_cV (d - 1) 0 [] [.int ((10 : Int32) * v2)] 73 dX8_one_70 rfl (lk_X8_82 rfl) (by omega) kd_88 rfl rfl rfl (Nat.le_of_ble_eq_true rfl) (sp_X8_look (by omega) c8 ?_)
      refine wp_iadd 74 dX8_one_73 rfl ?_
      refine wp_bipush (48 : Int32) 76 dX8_one_74 kbipush_48 rfl ?_
      refine wp_isub 77 dX8_one_76 rfl ?_
      refine wp_istore_n 78 dX8_one_77 rfl (Nat.le_of_ble_eq_true rfl) rfl ?_
      refine wp_aload_n 79 dX8_one_78 rfl rfl ?_
      refine wp_dup 80 dX8_one_79 rfl rfl ?_
      refine wp_getI 83 dX8_one_80 rfl fl_X8_68 kd_88 rfl ?_
      refine wp_iconst (1 : Int32) 84 dX8_one_83 kiconst_1 rfl ?_
      refine wp_iadd 85 dX8_one_84 rfl ?_
      refine wp_putI 88 dX8_one_85 rfl fl_X8_68 fin_8_6 kd_88 rfl ?_
      refine wp_nm (fun h9 eh9 => ?_)
      replace H := H h9 eh9
      refine wp_iinc (1 : Int32) 91 dX8_one_88 rfl rfl kiconst_1 (Nat.le_of_ble_eq_true rfl) rfl ?_
      refine wp_goto 46 dX8_one_91 rfl ?_
      exact H

def at_X8_product_9 (G : kG) (d : Nat) (Q : Int32 → kM → Prop)   (h : kM) : Prop := Wp G d m_X8_product (kEo G d m_X8_product Q) 9 [.ref 88, .null] [] h
theorem sg_X8_product_0 {G : kG} {d : Nat} {Q : Int32 → kM → Prop}   {h : kM} (hd : 3 ≤ d)  (H :
    Cal G (d - 1) m_X8_one [.ref 88] h (fun x1 h2 =>
      ((¬ x1 = 0 →
        at_X8_product_9 G d Q  h2
      ) ∧ (x1 = 0 →
        Q (0 : Int32) h2
      ))
    )) : Wp G d m_X8_product (kEo G d m_X8_product Q) 0 [.ref 88, .null] [] h := by
  refine wp_aload_n 1 dX8_product_0 rfl rfl ?_
  refine wp_cV (d - 1) 0 [] [] 4 dX8_product_1 rfl (lk_X8_99 rfl) (by omega) kd_88 rfl rfl rfl (Nat.le_of_ble_eq_true rfl) (H.mono (fun x1 h2 H => ?_))
  refine wp_if_ne 9 7 dX8_product_4 rfl rfl ⟨fun c3 => ?_, fun c3 => ?_⟩
  · replace H := H.1 c3
    exact H
  · replace H := H.2 c3
    refine wp_iconst (0 : Int32) 8 dX8_product_7 kiconst_0 rfl ?_
    exact wp_retz dX8_product_8 rfl (Or.inl rfl) H

theorem cg_X8_product {G : kG} {d : Nat} {Q : Int32 → kM → Prop}   {h : kM} (hd : 3 ≤ d)  (H :
    Cal G (d - 1) m_X8_one [.ref 88] h (fun x1 h2 =>
      ((¬ x1 = 0 →
        at_X8_product_9 G d Q  h2
      ) ∧ (x1 = 0 →
        Q (0 : Int32) h2
      ))
    )) : Cal G d m_X8_product [.ref 88] h Q :=
  Cal.of [.ref 88, .null] (by decide +kernel) (Nat.le_of_ble_eq_true rfl) rfl (sg_X8_product_0 hd  H)

theorem sg_X8_product_9 {G : kG} {d : Nat} {Q : Int32 → kM → Prop}   {h : kM} (hd : 3 ≤ d)  (H :
    (okL h) ∧
    (((mLook h) = (42 : Int32) →
      (okL h) ∧
      ∀ h4 : kM, h4 = kU h 88 6 ((h 88 6) + (1 : Int32)) →
      Cal G (d - 1) m_X8_one [.ref 88] h4 (fun x5 h6 =>
        ((¬ x5 = 0 →
          (okS h6) ∧
          ∀ h9 : kM, h9 = mStep h6 (3 : Int32) (mLook h) →
          at_X8_product_9 G d Q  h9
        ) ∧ (x5 = 0 →
          Q (0 : Int32) h6
        ))
      )
    ) ∧ (¬ ((mLook h) = (42 : Int32)) →
      (okL h) ∧
      (((mLook h) = (47 : Int32) →
        (okL h) ∧
        ∀ h13 : kM, h13 = kU h 88 6 ((h 88 6) + (1 : Int32)) →
        Cal G (d - 1) m_X8_one [.ref 88] h13 (fun x14 h15 =>
          ((¬ x14 = 0 →
            (okS h15) ∧
            ∀ h18 : kM, h18 = mStep h15 (3 : Int32) (mLook h) →
            at_X8_product_9 G d Q  h18
          ) ∧ (x14 = 0 →
            Q (0 : Int32) h15
          ))
        )
      ) ∧ (¬ ((mLook h) = (47 : Int32)) →
        (okL h) ∧
        ((¬ (mLook h) = (37 : Int32) →
          Q (1 : Int32) h
        ) ∧ ((mLook h) = (37 : Int32) →
          (okL h) ∧
          ∀ h22 : kM, h22 = kU h 88 6 ((h 88 6) + (1 : Int32)) →
          Cal G (d - 1) m_X8_one [.ref 88] h22 (fun x23 h24 =>
            ((¬ x23 = 0 →
              (okS h24) ∧
              ∀ h27 : kM, h27 = mStep h24 (3 : Int32) (mLook h) →
              at_X8_product_9 G d Q  h27
            ) ∧ (x23 = 0 →
              Q (0 : Int32) h24
            ))
          )
        ))
      ))
    ))) : at_X8_product_9 G d Q  h := by
  show Wp G d m_X8_product (kEo G d m_X8_product Q) 9 [.ref 88, .null] [] h
  refine wp_aload_n 10 dX8_product_9 rfl rfl ?_
  have c1 := H.1; replace H := H.2
  refine wp_cV (d - 1) 0 [] [] 13 dX8_product_10 rfl (lk_X8_82 rfl) (by omega) kd_88 rfl rfl rfl (Nat.le_of_ble_eq_true rfl) (sp_X8_look (by omega) c1 ?_)
  refine wp_bipush (42 : Int32) 15 dX8_product_13 kbipush_42 rfl ?_
  refine wp_icmp_eq 36 18 dX8_product_15 rfl rfl ⟨fun c2 => ?_, fun c2 => ?_⟩
  · replace H := H.1 c2
    refine wp_aload_n 37 dX8_product_36 rfl rfl ?_
    have c3 := H.1; replace H := H.2
    refine wp_cV (d - 1) 0 [] [] 40 dX8_product_37 rfl (lk_X8_82 rfl) (by omega) kd_88 rfl rfl rfl (Nat.le_of_ble_eq_true rfl) (sp_X8_look (by omega) c3 ?_)
    refine wp_istore_n 41 dX8_product_40 rfl (Nat.le_of_ble_eq_true rfl) rfl ?_
    refine wp_aload_n 42 dX8_product_41 rfl rfl ?_
    refine wp_dup 43 dX8_product_42 rfl rfl ?_
    refine wp_getI 46 dX8_product_43 rfl fl_X8_68 kd_88 rfl ?_
    refine wp_iconst (1 : Int32) 47 dX8_product_46 kiconst_1 rfl ?_
    refine wp_iadd 48 dX8_product_47 rfl ?_
    refine wp_putI 51 dX8_product_48 rfl fl_X8_68 fin_8_6 kd_88 rfl ?_
    refine wp_nm (fun h4 eh4 => ?_)
    replace H := H h4 eh4
    refine wp_aload_n 52 dX8_product_51 rfl rfl ?_
    refine wp_cV (d - 1) 0 [] [] 55 dX8_product_52 rfl (lk_X8_99 rfl) (by omega) kd_88 rfl rfl rfl (Nat.le_of_ble_eq_true rfl) (H.mono (fun x5 h6 H => ?_))
    refine wp_if_ne 60 58 dX8_product_55 rfl rfl ⟨fun c7 => ?_, fun c7 => ?_⟩
    · replace H := H.1 c7
      refine wp_aload_n 61 dX8_product_60 rfl rfl ?_
      refine wp_iconst (3 : Int32) 62 dX8_product_61 kiconst_3 rfl ?_
      refine wp_iload_n 63 dX8_product_62 rfl rfl ?_
      have c8 := H.1; replace H := H.2
      refine wp_cV (d - 1) 2 [.int (3 : Int32), .int (mLook h)] [] 66 dX8_product_63 rfl (lk_X8_86 rfl) (by omega) kd_88 rfl rfl rfl (Nat.le_of_ble_eq_true rfl) (sp_X8_step1 (by omega) c8 (fun h9 eh9 => ?_))
      replace H := H h9 eh9
      refine wp_goto 9 dX8_product_66 rfl ?_
      refine wp_drop 1 ?_
      exact H
    · replace H := H.2 c7
      refine wp_iconst (0 : Int32) 59 dX8_product_58 kiconst_0 rfl ?_
      exact wp_retz dX8_product_59 rfl (Or.inl rfl) H
  · replace H := H.2 c2
    refine wp_aload_n 19 dX8_product_18 rfl rfl ?_
    have c10 := H.1; replace H := H.2
    refine wp_cV (d - 1) 0 [] [] 22 dX8_product_19 rfl (lk_X8_82 rfl) (by omega) kd_88 rfl rfl rfl (Nat.le_of_ble_eq_true rfl) (sp_X8_look (by omega) c10 ?_)
    refine wp_bipush (47 : Int32) 24 dX8_product_22 kbipush_47 rfl ?_
    refine wp_icmp_eq 36 27 dX8_product_24 rfl rfl ⟨fun c11 => ?_, fun c11 => ?_⟩
    · replace H := H.1 c11
      refine wp_aload_n 37 dX8_product_36 rfl rfl ?_
      have c12 := H.1; replace H := H.2
      refine wp_cV (d - 1) 0 [] [] 40 dX8_product_37 rfl (lk_X8_82 rfl) (by omega) kd_88 rfl rfl rfl (Nat.le_of_ble_eq_true rfl) (sp_X8_look (by omega) c12 ?_)
      refine wp_istore_n 41 dX8_product_40 rfl (Nat.le_of_ble_eq_true rfl) rfl ?_
      refine wp_aload_n 42 dX8_product_41 rfl rfl ?_
      refine wp_dup 43 dX8_product_42 rfl rfl ?_
      refine wp_getI 46 dX8_product_43 rfl fl_X8_68 kd_88 rfl ?_
      refine wp_iconst (1 : Int32) 47 dX8_product_46 kiconst_1 rfl ?_
      refine wp_iadd 48 dX8_product_47 rfl ?_
      refine wp_putI 51 dX8_product_48 rfl fl_X8_68 fin_8_6 kd_88 rfl ?_
      refine wp_nm (fun h13 eh13 => ?_)
      replace H := H h13 eh13
      refine wp_aload_n 52 dX8_product_51 rfl rfl ?_
      refine wp_cV (d - 1) 0 [] [] 55 dX8_product_52 rfl (lk_X8_99 rfl) (by omega) kd_88 rfl rfl rfl (Nat.le_of_ble_eq_true rfl) (H.mono (fun x14 h15 H => ?_))
      refine wp_if_ne 60 58 dX8_product_55 rfl rfl ⟨fun c16 => ?_, fun c16 => ?_⟩
      · replace H := H.1 c16
        refine wp_aload_n 61 dX8_product_60 rfl rfl ?_
        refine wp_iconst (3 : Int32) 62 dX8_product_61 kiconst_3 rfl ?_
        refine wp_iload_n 63 dX8_product_62 rfl rfl ?_
        have c17 := H.1; replace H := H.2
        refine wp_cV (d - 1) 2 [.int (3 : Int32), .int (mLook h)] [] 66 dX8_product_63 rfl (lk_X8_86 rfl) (by omega) kd_88 rfl rfl rfl (Nat.le_of_ble_eq_true rfl) (sp_X8_step1 (by omega) c17 (fun h18 eh18 => ?_))
        replace H := H h18 eh18
        refine wp_goto 9 dX8_product_66 rfl ?_
        refine wp_drop 1 ?_
        exact H
      · replace H := H.2 c16
        refine wp_iconst (0 : Int32) 59 dX8_product_58 kiconst_0 rfl ?_
        exact wp_retz dX8_product_59 rfl (Or.inl rfl) H
    · replace H := H.2 c11
      refine wp_aload_n 28 dX8_product_27 rfl rfl ?_
      have c19 := H.1; replace H := H.2
      refine wp_cV (d - 1) 0 [] [] 31 dX8_product_28 rfl (lk_X8_82 rfl) (by omega) kd_88 rfl rfl rfl (Nat.le_of_ble_eq_true rfl) (sp_X8_look (by omega) c19 ?_)
      refine wp_bipush (37 : Int32) 33 dX8_product_31 kbipush_37 rfl ?_
      refine wp_icmp_ne 69 36 dX8_product_33 rfl rfl ⟨fun c20 => ?_, fun c20 => ?_⟩
      · replace H := H.1 c20
        refine wp_iconst (1 : Int32) 70 dX8_product_69 kiconst_1 rfl ?_
        exact wp_retz dX8_product_70 rfl (Or.inr rfl) H
      · replace H := H.2 c20
        refine wp_aload_n 37 dX8_product_36 rfl rfl ?_
        have c21 := H.1; replace H := H.2
        refine wp_cV (d - 1) 0 [] [] 40 dX8_product_37 rfl (lk_X8_82 rfl) (by omega) kd_88 rfl rfl rfl (Nat.le_of_ble_eq_true rfl) (sp_X8_look (by omega) c21 ?_)
        refine wp_istore_n 41 dX8_product_40 rfl (Nat.le_of_ble_eq_true rfl) rfl ?_
        refine wp_aload_n 42 dX8_product_41 rfl rfl ?_
        refine wp_dup 43 dX8_product_42 rfl rfl ?_
        refine wp_getI 46 dX8_product_43 rfl fl_X8_68 kd_88 rfl ?_
        refine wp_iconst (1 : Int32) 47 dX8_product_46 kiconst_1 rfl ?_
        refine wp_iadd 48 dX8_product_47 rfl ?_
        refine wp_putI 51 dX8_product_48 rfl fl_X8_68 fin_8_6 kd_88 rfl ?_
        refine wp_nm (fun h22 eh22 => ?_)
        replace H := H h22 eh22
        refine wp_aload_n 52 dX8_product_51 rfl rfl ?_
        refine wp_cV (d - 1) 0 [] [] 55 dX8_product_52 rfl (lk_X8_99 rfl) (by omega) kd_88 rfl rfl rfl (Nat.le_of_ble_eq_true rfl) (H.mono (fun x23 h24 H => ?_))
        refine wp_if_ne 60 58 dX8_product_55 rfl rfl ⟨fun c25 => ?_, fun c25 => ?_⟩
        · replace H := H.1 c25
          refine wp_aload_n 61 dX8_product_60 rfl rfl ?_
          refine wp_iconst (3 : Int32) 62 dX8_product_61 kiconst_3 rfl ?_
          refine wp_iload_n 63 dX8_product_62 rfl rfl ?_
          have c26 := H.1; replace H := H.2
          refine wp_cV (d - 1) 2 [.int (3 : Int32), .int (mLook h)] [] 66 dX8_product_63 rfl (lk_X8_86 rfl) (by omega) kd_88 rfl rfl rfl (Nat.le_of_ble_eq_true rfl) (sp_X8_step1 (by omega) c26 (fun h27 eh27 => ?_))
          replace H := H h27 eh27
          refine wp_goto 9 dX8_product_66 rfl ?_
          refine wp_drop 1 ?_
          exact H
        · replace H := H.2 c25
          refine wp_iconst (0 : Int32) 59 dX8_product_58 kiconst_0 rfl ?_
          exact wp_retz dX8_product_59 rfl (Or.inl rfl) H

def at_X8_sum_9 (G : kG) (d : Nat) (Q : Int32 → kM → Prop)   (h : kM) : Prop := Wp G d m_X8_sum (kEo G d m_X8_sum Q) 9 [.ref 88, .null] [] h
theorem sg_X8_sum_0 {G : kG} {d : Nat} {Q : Int32 → kM → Prop}   {h : kM} (hd : 3 ≤ d)  (H :
    Cal G (d - 1) m_X8_product [.ref 88] h (fun x1 h2 =>
      ((¬ x1 = 0 →
        at_X8_sum_9 G d Q  h2
      ) ∧ (x1 = 0 →
        Q (0 : Int32) h2
      ))
    )) : Wp G d m_X8_sum (kEo G d m_X8_sum Q) 0 [.ref 88, .null] [] h := by
  refine wp_aload_n 1 dX8_sum_0 rfl rfl ?_
  refine wp_cV (d - 1) 0 [] [] 4 dX8_sum_1 rfl (lk_X8_96 rfl) (by omega) kd_88 rfl rfl rfl (Nat.le_of_ble_eq_true rfl) (H.mono (fun x1 h2 H => ?_))
  refine wp_if_ne 9 7 dX8_sum_4 rfl rfl ⟨fun c3 => ?_, fun c3 => ?_⟩
  · replace H := H.1 c3
    exact H
  · replace H := H.2 c3
    refine wp_iconst (0 : Int32) 8 dX8_sum_7 kiconst_0 rfl ?_
    exact wp_retz dX8_sum_8 rfl (Or.inl rfl) H

theorem cg_X8_sum {G : kG} {d : Nat} {Q : Int32 → kM → Prop}   {h : kM} (hd : 3 ≤ d)  (H :
    Cal G (d - 1) m_X8_product [.ref 88] h (fun x1 h2 =>
      ((¬ x1 = 0 →
        at_X8_sum_9 G d Q  h2
      ) ∧ (x1 = 0 →
        Q (0 : Int32) h2
      ))
    )) : Cal G d m_X8_sum [.ref 88] h Q :=
  Cal.of [.ref 88, .null] (by decide +kernel) (Nat.le_of_ble_eq_true rfl) rfl (sg_X8_sum_0 hd  H)

theorem sg_X8_sum_9 {G : kG} {d : Nat} {Q : Int32 → kM → Prop}   {h : kM} (hd : 3 ≤ d)  (H :
    (okL h) ∧
    (((mLook h) = (43 : Int32) →
      (okL h) ∧
      ∀ h4 : kM, h4 = kU h 88 6 ((h 88 6) + (1 : Int32)) →
      Cal G (d - 1) m_X8_product [.ref 88] h4 (fun x5 h6 =>
        ((¬ x5 = 0 →
          (okS h6) ∧
          ∀ h9 : kM, h9 = mStep h6 (3 : Int32) (mLook h) →
          at_X8_sum_9 G d Q  h9
        ) ∧ (x5 = 0 →
          Q (0 : Int32) h6
        ))
      )
    ) ∧ (¬ ((mLook h) = (43 : Int32)) →
      (okL h) ∧
      ((¬ (mLook h) = (45 : Int32) →
        Q (1 : Int32) h
      ) ∧ ((mLook h) = (45 : Int32) →
        (okL h) ∧
        ∀ h13 : kM, h13 = kU h 88 6 ((h 88 6) + (1 : Int32)) →
        Cal G (d - 1) m_X8_product [.ref 88] h13 (fun x14 h15 =>
          ((¬ x14 = 0 →
            (okS h15) ∧
            ∀ h18 : kM, h18 = mStep h15 (3 : Int32) (mLook h) →
            at_X8_sum_9 G d Q  h18
          ) ∧ (x14 = 0 →
            Q (0 : Int32) h15
          ))
        )
      ))
    ))) : at_X8_sum_9 G d Q  h := by
  show Wp G d m_X8_sum (kEo G d m_X8_sum Q) 9 [.ref 88, .null] [] h
  refine wp_aload_n 10 dX8_sum_9 rfl rfl ?_
  have c1 := H.1; replace H := H.2
  refine wp_cV (d - 1) 0 [] [] 13 dX8_sum_10 rfl (lk_X8_82 rfl) (by omega) kd_88 rfl rfl rfl (Nat.le_of_ble_eq_true rfl) (sp_X8_look (by omega) c1 ?_)
  refine wp_bipush (43 : Int32) 15 dX8_sum_13 kbipush_43 rfl ?_
  refine wp_icmp_eq 27 18 dX8_sum_15 rfl rfl ⟨fun c2 => ?_, fun c2 => ?_⟩
  · replace H := H.1 c2
    refine wp_aload_n 28 dX8_sum_27 rfl rfl ?_
    have c3 := H.1; replace H := H.2
    refine wp_cV (d - 1) 0 [] [] 31 dX8_sum_28 rfl (lk_X8_82 rfl) (by omega) kd_88 rfl rfl rfl (Nat.le_of_ble_eq_true rfl) (sp_X8_look (by omega) c3 ?_)
    refine wp_istore_n 32 dX8_sum_31 rfl (Nat.le_of_ble_eq_true rfl) rfl ?_
    refine wp_aload_n 33 dX8_sum_32 rfl rfl ?_
    refine wp_dup 34 dX8_sum_33 rfl rfl ?_
    refine wp_getI 37 dX8_sum_34 rfl fl_X8_68 kd_88 rfl ?_
    refine wp_iconst (1 : Int32) 38 dX8_sum_37 kiconst_1 rfl ?_
    refine wp_iadd 39 dX8_sum_38 rfl ?_
    refine wp_putI 42 dX8_sum_39 rfl fl_X8_68 fin_8_6 kd_88 rfl ?_
    refine wp_nm (fun h4 eh4 => ?_)
    replace H := H h4 eh4
    refine wp_aload_n 43 dX8_sum_42 rfl rfl ?_
    refine wp_cV (d - 1) 0 [] [] 46 dX8_sum_43 rfl (lk_X8_96 rfl) (by omega) kd_88 rfl rfl rfl (Nat.le_of_ble_eq_true rfl) (H.mono (fun x5 h6 H => ?_))
    refine wp_if_ne 51 49 dX8_sum_46 rfl rfl ⟨fun c7 => ?_, fun c7 => ?_⟩
    · replace H := H.1 c7
      refine wp_aload_n 52 dX8_sum_51 rfl rfl ?_
      refine wp_iconst (3 : Int32) 53 dX8_sum_52 kiconst_3 rfl ?_
      refine wp_iload_n 54 dX8_sum_53 rfl rfl ?_
      have c8 := H.1; replace H := H.2
      refine wp_cV (d - 1) 2 [.int (3 : Int32), .int (mLook h)] [] 57 dX8_sum_54 rfl (lk_X8_86 rfl) (by omega) kd_88 rfl rfl rfl (Nat.le_of_ble_eq_true rfl) (sp_X8_step1 (by omega) c8 (fun h9 eh9 => ?_))
      replace H := H h9 eh9
      refine wp_goto 9 dX8_sum_57 rfl ?_
      refine wp_drop 1 ?_
      exact H
    · replace H := H.2 c7
      refine wp_iconst (0 : Int32) 50 dX8_sum_49 kiconst_0 rfl ?_
      exact wp_retz dX8_sum_50 rfl (Or.inl rfl) H
  · replace H := H.2 c2
    refine wp_aload_n 19 dX8_sum_18 rfl rfl ?_
    have c10 := H.1; replace H := H.2
    refine wp_cV (d - 1) 0 [] [] 22 dX8_sum_19 rfl (lk_X8_82 rfl) (by omega) kd_88 rfl rfl rfl (Nat.le_of_ble_eq_true rfl) (sp_X8_look (by omega) c10 ?_)
    refine wp_bipush (45 : Int32) 24 dX8_sum_22 kbipush_45 rfl ?_
    refine wp_icmp_ne 60 27 dX8_sum_24 rfl rfl ⟨fun c11 => ?_, fun c11 => ?_⟩
    · replace H := H.1 c11
      refine wp_iconst (1 : Int32) 61 dX8_sum_60 kiconst_1 rfl ?_
      exact wp_retz dX8_sum_61 rfl (Or.inr rfl) H
    · replace H := H.2 c11
      refine wp_aload_n 28 dX8_sum_27 rfl rfl ?_
      have c12 := H.1; replace H := H.2
      refine wp_cV (d - 1) 0 [] [] 31 dX8_sum_28 rfl (lk_X8_82 rfl) (by omega) kd_88 rfl rfl rfl (Nat.le_of_ble_eq_true rfl) (sp_X8_look (by omega) c12 ?_)
      refine wp_istore_n 32 dX8_sum_31 rfl (Nat.le_of_ble_eq_true rfl) rfl ?_
      refine wp_aload_n 33 dX8_sum_32 rfl rfl ?_
      refine wp_dup 34 dX8_sum_33 rfl rfl ?_
      refine wp_getI 37 dX8_sum_34 rfl fl_X8_68 kd_88 rfl ?_
      refine wp_iconst (1 : Int32) 38 dX8_sum_37 kiconst_1 rfl ?_
      refine wp_iadd 39 dX8_sum_38 rfl ?_
      refine wp_putI 42 dX8_sum_39 rfl fl_X8_68 fin_8_6 kd_88 rfl ?_
      refine wp_nm (fun h13 eh13 => ?_)
      replace H := H h13 eh13
      refine wp_aload_n 43 dX8_sum_42 rfl rfl ?_
      refine wp_cV (d - 1) 0 [] [] 46 dX8_sum_43 rfl (lk_X8_96 rfl) (by omega) kd_88 rfl rfl rfl (Nat.le_of_ble_eq_true rfl) (H.mono (fun x14 h15 H => ?_))
      refine wp_if_ne 51 49 dX8_sum_46 rfl rfl ⟨fun c16 => ?_, fun c16 => ?_⟩
      · replace H := H.1 c16
        refine wp_aload_n 52 dX8_sum_51 rfl rfl ?_
        refine wp_iconst (3 : Int32) 53 dX8_sum_52 kiconst_3 rfl ?_
        refine wp_iload_n 54 dX8_sum_53 rfl rfl ?_
        have c17 := H.1; replace H := H.2
        refine wp_cV (d - 1) 2 [.int (3 : Int32), .int (mLook h)] [] 57 dX8_sum_54 rfl (lk_X8_86 rfl) (by omega) kd_88 rfl rfl rfl (Nat.le_of_ble_eq_true rfl) (sp_X8_step1 (by omega) c17 (fun h18 eh18 => ?_))
        replace H := H h18 eh18
        refine wp_goto 9 dX8_sum_57 rfl ?_
        refine wp_drop 1 ?_
        exact H
      · replace H := H.2 c16
        refine wp_iconst (0 : Int32) 50 dX8_sum_49 kiconst_0 rfl ?_
        exact wp_retz dX8_sum_50 rfl (Or.inl rfl) H

theorem sg_X8_compared_0 {G : kG} {d : Nat} {Q : Int32 → kM → Prop}   {h : kM} (hd : 3 ≤ d)  (H :
    Cal G (d - 1) m_X8_sum [.ref 88] h (fun x1 h2 =>
      ((¬ x1 = 0 →
        (okL h2) ∧
        (((mLook h2) = (60 : Int32) →
          ∀ h6 : kM, h6 = kU h2 88 6 ((h2 88 6) + (1 : Int32)) →
          Cal G (d - 1) m_X8_sum [.ref 88] h6 (fun x7 h8 =>
            ((¬ x7 = 0 →
              (okS h8) ∧
              ∀ h11 : kM, h11 = mStep h8 (3 : Int32) (mLook h2) →
              Q (1 : Int32) h11
            ) ∧ (x7 = 0 →
              Q (0 : Int32) h8
            ))
          )
        ) ∧ (¬ ((mLook h2) = (60 : Int32)) →
          (((mLook h2) = (61 : Int32) →
            ∀ h13 : kM, h13 = kU h2 88 6 ((h2 88 6) + (1 : Int32)) →
            Cal G (d - 1) m_X8_sum [.ref 88] h13 (fun x14 h15 =>
              ((¬ x14 = 0 →
                (okS h15) ∧
                ∀ h18 : kM, h18 = mStep h15 (3 : Int32) (mLook h2) →
                Q (1 : Int32) h18
              ) ∧ (x14 = 0 →
                Q (0 : Int32) h15
              ))
            )
          ) ∧ (¬ ((mLook h2) = (61 : Int32)) →
            (((mLook h2) = (62 : Int32) →
              ∀ h20 : kM, h20 = kU h2 88 6 ((h2 88 6) + (1 : Int32)) →
              Cal G (d - 1) m_X8_sum [.ref 88] h20 (fun x21 h22 =>
                ((¬ x21 = 0 →
                  (okS h22) ∧
                  ∀ h25 : kM, h25 = mStep h22 (3 : Int32) (mLook h2) →
                  Q (1 : Int32) h25
                ) ∧ (x21 = 0 →
                  Q (0 : Int32) h22
                ))
              )
            ) ∧ (¬ ((mLook h2) = (62 : Int32)) →
              Q (1 : Int32) h2
            ))
          ))
        ))
      ) ∧ (x1 = 0 →
        Q (0 : Int32) h2
      ))
    )) : Wp G d m_X8_compared (kEo G d m_X8_compared Q) 0 [.ref 88, .null] [] h := by
  refine wp_aload_n 1 dX8_compared_0 rfl rfl ?_
  refine wp_cV (d - 1) 0 [] [] 4 dX8_compared_1 rfl (lk_X8_93 rfl) (by omega) kd_88 rfl rfl rfl (Nat.le_of_ble_eq_true rfl) (H.mono (fun x1 h2 H => ?_))
  refine wp_if_ne 9 7 dX8_compared_4 rfl rfl ⟨fun c3 => ?_, fun c3 => ?_⟩
  · replace H := H.1 c3
    refine wp_aload_n 10 dX8_compared_9 rfl rfl ?_
    have c4 := H.1; replace H := H.2
    refine wp_cV (d - 1) 0 [] [] 13 dX8_compared_10 rfl (lk_X8_82 rfl) (by omega) kd_88 rfl rfl rfl (Nat.le_of_ble_eq_true rfl) (sp_X8_look (by omega) c4 ?_)
    refine wp_istore_n 14 dX8_compared_13 rfl (Nat.le_of_ble_eq_true rfl) rfl ?_
    refine wp_iload_n 15 dX8_compared_14 rfl rfl ?_
    refine wp_bipush (60 : Int32) 17 dX8_compared_15 kbipush_60 rfl ?_
    refine wp_icmp_eq 34 20 dX8_compared_17 rfl rfl ⟨fun c5 => ?_, fun c5 => ?_⟩
    · replace H := H.1 c5
      refine wp_aload_n 35 dX8_compared_34 rfl rfl ?_
      refine wp_dup 36 dX8_compared_35 rfl rfl ?_
      refine wp_getI 39 dX8_compared_36 rfl fl_X8_68 kd_88 rfl ?_
      refine wp_iconst (1 : Int32) 40 dX8_compared_39 kiconst_1 rfl ?_
      refine wp_iadd 41 dX8_compared_40 rfl ?_
      refine wp_putI 44 dX8_compared_41 rfl fl_X8_68 fin_8_6 kd_88 rfl ?_
      refine wp_nm (fun h6 eh6 => ?_)
      replace H := H h6 eh6
      refine wp_aload_n 45 dX8_compared_44 rfl rfl ?_
      refine wp_cV (d - 1) 0 [] [] 48 dX8_compared_45 rfl (lk_X8_93 rfl) (by omega) kd_88 rfl rfl rfl (Nat.le_of_ble_eq_true rfl) (H.mono (fun x7 h8 H => ?_))
      refine wp_if_ne 53 51 dX8_compared_48 rfl rfl ⟨fun c9 => ?_, fun c9 => ?_⟩
      · replace H := H.1 c9
        refine wp_aload_n 54 dX8_compared_53 rfl rfl ?_
        refine wp_iconst (3 : Int32) 55 dX8_compared_54 kiconst_3 rfl ?_
        refine wp_iload_n 56 dX8_compared_55 rfl rfl ?_
        have c10 := H.1; replace H := H.2
        refine wp_cV (d - 1) 2 [.int (3 : Int32), .int (mLook h2)] [] 59 dX8_compared_56 rfl (lk_X8_86 rfl) (by omega) kd_88 rfl rfl rfl (Nat.le_of_ble_eq_true rfl) (sp_X8_step1 (by omega) c10 (fun h11 eh11 => ?_))
        replace H := H h11 eh11
        refine wp_iconst (1 : Int32) 60 dX8_compared_59 kiconst_1 rfl ?_
        exact wp_retz dX8_compared_60 rfl (Or.inr rfl) H
      · replace H := H.2 c9
        refine wp_iconst (0 : Int32) 52 dX8_compared_51 kiconst_0 rfl ?_
        exact wp_retz dX8_compared_52 rfl (Or.inl rfl) H
    · replace H := H.2 c5
      refine wp_iload_n 21 dX8_compared_20 rfl rfl ?_
      refine wp_bipush (61 : Int32) 23 dX8_compared_21 kbipush_61 rfl ?_
      refine wp_icmp_eq 34 26 dX8_compared_23 rfl rfl ⟨fun c12 => ?_, fun c12 => ?_⟩
      · replace H := H.1 c12
        refine wp_aload_n 35 dX8_compared_34 rfl rfl ?_
        refine wp_dup 36 dX8_compared_35 rfl rfl ?_
        refine wp_getI 39 dX8_compared_36 rfl fl_X8_68 kd_88 rfl ?_
        refine wp_iconst (1 : Int32) 40 dX8_compared_39 kiconst_1 rfl ?_
        refine wp_iadd 41 dX8_compared_40 rfl ?_
        refine wp_putI 44 dX8_compared_41 rfl fl_X8_68 fin_8_6 kd_88 rfl ?_
        refine wp_nm (fun h13 eh13 => ?_)
        replace H := H h13 eh13
        refine wp_aload_n 45 dX8_compared_44 rfl rfl ?_
        refine wp_cV (d - 1) 0 [] [] 48 dX8_compared_45 rfl (lk_X8_93 rfl) (by omega) kd_88 rfl rfl rfl (Nat.le_of_ble_eq_true rfl) (H.mono (fun x14 h15 H => ?_))
        refine wp_if_ne 53 51 dX8_compared_48 rfl rfl ⟨fun c16 => ?_, fun c16 => ?_⟩
        · replace H := H.1 c16
          refine wp_aload_n 54 dX8_compared_53 rfl rfl ?_
          refine wp_iconst (3 : Int32) 55 dX8_compared_54 kiconst_3 rfl ?_
          refine wp_iload_n 56 dX8_compared_55 rfl rfl ?_
          have c17 := H.1; replace H := H.2
          refine wp_cV (d - 1) 2 [.int (3 : Int32), .int (mLook h2)] [] 59 dX8_compared_56 rfl (lk_X8_86 rfl) (by omega) kd_88 rfl rfl rfl (Nat.le_of_ble_eq_true rfl) (sp_X8_step1 (by omega) c17 (fun h18 eh18 => ?_))
          replace H := H h18 eh18
          refine wp_iconst (1 : Int32) 60 dX8_compared_59 kiconst_1 rfl ?_
          exact wp_retz dX8_compared_60 rfl (Or.inr rfl) H
        · replace H := H.2 c16
          refine wp_iconst (0 : Int32) 52 dX8_compared_51 kiconst_0 rfl ?_
          exact wp_retz dX8_compared_52 rfl (Or.inl rfl) H
      · replace H := H.2 c12
        refine wp_iload_n 27 dX8_compared_26 rfl rfl ?_
        refine wp_bipush (62 : Int32) 29 dX8_compared_27 kbipush_62 rfl ?_
        refine wp_icmp_eq 34 32 dX8_compared_29 rfl rfl ⟨fun c19 => ?_, fun c19 => ?_⟩
        · replace H := H.1 c19
          refine wp_aload_n 35 dX8_compared_34 rfl rfl ?_
          refine wp_dup 36 dX8_compared_35 rfl rfl ?_
          refine wp_getI 39 dX8_compared_36 rfl fl_X8_68 kd_88 rfl ?_
          refine wp_iconst (1 : Int32) 40 dX8_compared_39 kiconst_1 rfl ?_
          refine wp_iadd 41 dX8_compared_40 rfl ?_
          refine wp_putI 44 dX8_compared_41 rfl fl_X8_68 fin_8_6 kd_88 rfl ?_
          refine wp_nm (fun h20 eh20 => ?_)
          replace H := H h20 eh20
          refine wp_aload_n 45 dX8_compared_44 rfl rfl ?_
          refine wp_cV (d - 1) 0 [] [] 48 dX8_compared_45 rfl (lk_X8_93 rfl) (by omega) kd_88 rfl rfl rfl (Nat.le_of_ble_eq_true rfl) (H.mono (fun x21 h22 H => ?_))
          refine wp_if_ne 53 51 dX8_compared_48 rfl rfl ⟨fun c23 => ?_, fun c23 => ?_⟩
          · replace H := H.1 c23
            refine wp_aload_n 54 dX8_compared_53 rfl rfl ?_
            refine wp_iconst (3 : Int32) 55 dX8_compared_54 kiconst_3 rfl ?_
            refine wp_iload_n 56 dX8_compared_55 rfl rfl ?_
            have c24 := H.1; replace H := H.2
            refine wp_cV (d - 1) 2 [.int (3 : Int32), .int (mLook h2)] [] 59 dX8_compared_56 rfl (lk_X8_86 rfl) (by omega) kd_88 rfl rfl rfl (Nat.le_of_ble_eq_true rfl) (sp_X8_step1 (by omega) c24 (fun h25 eh25 => ?_))
            replace H := H h25 eh25
            refine wp_iconst (1 : Int32) 60 dX8_compared_59 kiconst_1 rfl ?_
            exact wp_retz dX8_compared_60 rfl (Or.inr rfl) H
          · replace H := H.2 c23
            refine wp_iconst (0 : Int32) 52 dX8_compared_51 kiconst_0 rfl ?_
            exact wp_retz dX8_compared_52 rfl (Or.inl rfl) H
        · replace H := H.2 c19
          refine wp_iconst (1 : Int32) 33 dX8_compared_32 kiconst_1 rfl ?_
          exact wp_retz dX8_compared_33 rfl (Or.inr rfl) H
  · replace H := H.2 c3
    refine wp_iconst (0 : Int32) 8 dX8_compared_7 kiconst_0 rfl ?_
    exact wp_retz dX8_compared_8 rfl (Or.inl rfl) H

theorem cg_X8_compared {G : kG} {d : Nat} {Q : Int32 → kM → Prop}   {h : kM} (hd : 3 ≤ d)  (H :
    Cal G (d - 1) m_X8_sum [.ref 88] h (fun x1 h2 =>
      ((¬ x1 = 0 →
        (okL h2) ∧
        (((mLook h2) = (60 : Int32) →
          ∀ h6 : kM, h6 = kU h2 88 6 ((h2 88 6) + (1 : Int32)) →
          Cal G (d - 1) m_X8_sum [.ref 88] h6 (fun x7 h8 =>
            ((¬ x7 = 0 →
              (okS h8) ∧
              ∀ h11 : kM, h11 = mStep h8 (3 : Int32) (mLook h2) →
              Q (1 : Int32) h11
            ) ∧ (x7 = 0 →
              Q (0 : Int32) h8
            ))
          )
        ) ∧ (¬ ((mLook h2) = (60 : Int32)) →
          (((mLook h2) = (61 : Int32) →
            ∀ h13 : kM, h13 = kU h2 88 6 ((h2 88 6) + (1 : Int32)) →
            Cal G (d - 1) m_X8_sum [.ref 88] h13 (fun x14 h15 =>
              ((¬ x14 = 0 →
                (okS h15) ∧
                ∀ h18 : kM, h18 = mStep h15 (3 : Int32) (mLook h2) →
                Q (1 : Int32) h18
              ) ∧ (x14 = 0 →
                Q (0 : Int32) h15
              ))
            )
          ) ∧ (¬ ((mLook h2) = (61 : Int32)) →
            (((mLook h2) = (62 : Int32) →
              ∀ h20 : kM, h20 = kU h2 88 6 ((h2 88 6) + (1 : Int32)) →
              Cal G (d - 1) m_X8_sum [.ref 88] h20 (fun x21 h22 =>
                ((¬ x21 = 0 →
                  (okS h22) ∧
                  ∀ h25 : kM, h25 = mStep h22 (3 : Int32) (mLook h2) →
                  Q (1 : Int32) h25
                ) ∧ (x21 = 0 →
                  Q (0 : Int32) h22
                ))
              )
            ) ∧ (¬ ((mLook h2) = (62 : Int32)) →
              Q (1 : Int32) h2
            ))
          ))
        ))
      ) ∧ (x1 = 0 →
        Q (0 : Int32) h2
      ))
    )) : Cal G d m_X8_compared [.ref 88] h Q :=
  Cal.of [.ref 88, .null] (by decide +kernel) (Nat.le_of_ble_eq_true rfl) rfl (sg_X8_compared_0 hd  H)

def at_X8_both_9 (G : kG) (d : Nat) (Q : Int32 → kM → Prop)   (h : kM) : Prop := Wp G d m_X8_both (kEo G d m_X8_both Q) 9 [.ref 88] [] h
theorem sg_X8_both_0 {G : kG} {d : Nat} {Q : Int32 → kM → Prop}   {h : kM} (hd : 3 ≤ d)  (H :
    Cal G (d - 1) m_X8_compared [.ref 88] h (fun x1 h2 =>
      ((¬ x1 = 0 →
        at_X8_both_9 G d Q  h2
      ) ∧ (x1 = 0 →
        Q (0 : Int32) h2
      ))
    )) : Wp G d m_X8_both (kEo G d m_X8_both Q) 0 [.ref 88] [] h := by
  refine wp_aload_n 1 dX8_both_0 rfl rfl ?_
  refine wp_cV (d - 1) 0 [] [] 4 dX8_both_1 rfl (lk_X8_90 rfl) (by omega) kd_88 rfl rfl rfl (Nat.le_of_ble_eq_true rfl) (H.mono (fun x1 h2 H => ?_))
  refine wp_if_ne 9 7 dX8_both_4 rfl rfl ⟨fun c3 => ?_, fun c3 => ?_⟩
  · replace H := H.1 c3
    exact H
  · replace H := H.2 c3
    refine wp_iconst (0 : Int32) 8 dX8_both_7 kiconst_0 rfl ?_
    exact wp_retz dX8_both_8 rfl (Or.inl rfl) H

theorem cg_X8_both {G : kG} {d : Nat} {Q : Int32 → kM → Prop}   {h : kM} (hd : 3 ≤ d)  (H :
    Cal G (d - 1) m_X8_compared [.ref 88] h (fun x1 h2 =>
      ((¬ x1 = 0 →
        at_X8_both_9 G d Q  h2
      ) ∧ (x1 = 0 →
        Q (0 : Int32) h2
      ))
    )) : Cal G d m_X8_both [.ref 88] h Q :=
  Cal.of [.ref 88] (by decide +kernel) (Nat.le_of_ble_eq_true rfl) rfl (sg_X8_both_0 hd  H)

theorem sg_X8_both_9 {G : kG} {d : Nat} {Q : Int32 → kM → Prop}   {h : kM} (hd : 3 ≤ d)  (H :
    (okL h) ∧
    ((¬ (mLook h) = (38 : Int32) →
      Q (1 : Int32) h
    ) ∧ ((mLook h) = (38 : Int32) →
      ∀ h3 : kM, h3 = kU h 88 6 ((h 88 6) + (1 : Int32)) →
      Cal G (d - 1) m_X8_compared [.ref 88] h3 (fun x4 h5 =>
        ((¬ x4 = 0 →
          (okS h5) ∧
          ∀ h8 : kM, h8 = mStep h5 (3 : Int32) (38 : Int32) →
          at_X8_both_9 G d Q  h8
        ) ∧ (x4 = 0 →
          Q (0 : Int32) h5
        ))
      )
    ))) : at_X8_both_9 G d Q  h := by
  show Wp G d m_X8_both (kEo G d m_X8_both Q) 9 [.ref 88] [] h
  refine wp_aload_n 10 dX8_both_9 rfl rfl ?_
  have c1 := H.1; replace H := H.2
  refine wp_cV (d - 1) 0 [] [] 13 dX8_both_10 rfl (lk_X8_82 rfl) (by omega) kd_88 rfl rfl rfl (Nat.le_of_ble_eq_true rfl) (sp_X8_look (by omega) c1 ?_)
  refine wp_bipush (38 : Int32) 15 dX8_both_13 kbipush_38 rfl ?_
  refine wp_icmp_ne 47 18 dX8_both_15 rfl rfl ⟨fun c2 => ?_, fun c2 => ?_⟩
  · replace H := H.1 c2
    refine wp_iconst (1 : Int32) 48 dX8_both_47 kiconst_1 rfl ?_
    exact wp_retz dX8_both_48 rfl (Or.inr rfl) H
  · replace H := H.2 c2
    refine wp_aload_n 19 dX8_both_18 rfl rfl ?_
    refine wp_dup 20 dX8_both_19 rfl rfl ?_
    refine wp_getI 23 dX8_both_20 rfl fl_X8_68 kd_88 rfl ?_
    refine wp_iconst (1 : Int32) 24 dX8_both_23 kiconst_1 rfl ?_
    refine wp_iadd 25 dX8_both_24 rfl ?_
    refine wp_putI 28 dX8_both_25 rfl fl_X8_68 fin_8_6 kd_88 rfl ?_
    refine wp_nm (fun h3 eh3 => ?_)
    replace H := H h3 eh3
    refine wp_aload_n 29 dX8_both_28 rfl rfl ?_
    refine wp_cV (d - 1) 0 [] [] 32 dX8_both_29 rfl (lk_X8_90 rfl) (by omega) kd_88 rfl rfl rfl (Nat.le_of_ble_eq_true rfl) (H.mono (fun x4 h5 H => ?_))
    refine wp_if_ne 37 35 dX8_both_32 rfl rfl ⟨fun c6 => ?_, fun c6 => ?_⟩
    · replace H := H.1 c6
      refine wp_aload_n 38 dX8_both_37 rfl rfl ?_
      refine wp_iconst (3 : Int32) 39 dX8_both_38 kiconst_3 rfl ?_
      refine wp_bipush (38 : Int32) 41 dX8_both_39 kbipush_38 rfl ?_
      have c7 := H.1; replace H := H.2
      refine wp_cV (d - 1) 2 [.int (3 : Int32), .int (38 : Int32)] [] 44 dX8_both_41 rfl (lk_X8_86 rfl) (by omega) kd_88 rfl rfl rfl (Nat.le_of_ble_eq_true rfl) (sp_X8_step1 (by omega) c7 (fun h8 eh8 => ?_))
      replace H := H h8 eh8
      refine wp_goto 9 dX8_both_44 rfl ?_
      exact H
    · replace H := H.2 c6
      refine wp_iconst (0 : Int32) 36 dX8_both_35 kiconst_0 rfl ?_
      exact wp_retz dX8_both_36 rfl (Or.inl rfl) H

def at_X8_whole_9 (G : kG) (d : Nat) (Q : Int32 → kM → Prop)   (h : kM) : Prop := Wp G d m_X8_whole (kEo G d m_X8_whole Q) 9 [.ref 88] [] h
theorem sg_X8_whole_0 {G : kG} {d : Nat} {Q : Int32 → kM → Prop}   {h : kM} (hd : 3 ≤ d)  (H :
    Cal G (d - 1) m_X8_both [.ref 88] h (fun x1 h2 =>
      ((¬ x1 = 0 →
        at_X8_whole_9 G d Q  h2
      ) ∧ (x1 = 0 →
        Q (0 : Int32) h2
      ))
    )) : Wp G d m_X8_whole (kEo G d m_X8_whole Q) 0 [.ref 88] [] h := by
  refine wp_aload_n 1 dX8_whole_0 rfl rfl ?_
  refine wp_cV (d - 1) 0 [] [] 4 dX8_whole_1 rfl (lk_X8_78 rfl) (by omega) kd_88 rfl rfl rfl (Nat.le_of_ble_eq_true rfl) (H.mono (fun x1 h2 H => ?_))
  refine wp_if_ne 9 7 dX8_whole_4 rfl rfl ⟨fun c3 => ?_, fun c3 => ?_⟩
  · replace H := H.1 c3
    exact H
  · replace H := H.2 c3
    refine wp_iconst (0 : Int32) 8 dX8_whole_7 kiconst_0 rfl ?_
    exact wp_retz dX8_whole_8 rfl (Or.inl rfl) H

theorem cg_X8_whole {G : kG} {d : Nat} {Q : Int32 → kM → Prop}   {h : kM} (hd : 3 ≤ d)  (H :
    Cal G (d - 1) m_X8_both [.ref 88] h (fun x1 h2 =>
      ((¬ x1 = 0 →
        at_X8_whole_9 G d Q  h2
      ) ∧ (x1 = 0 →
        Q (0 : Int32) h2
      ))
    )) : Cal G d m_X8_whole [.ref 88] h Q :=
  Cal.of [.ref 88] (by decide +kernel) (Nat.le_of_ble_eq_true rfl) rfl (sg_X8_whole_0 hd  H)

theorem sg_X8_whole_9 {G : kG} {d : Nat} {Q : Int32 → kM → Prop}   {h : kM} (hd : 3 ≤ d)  (H :
    (okL h) ∧
    ((¬ (mLook h) = (124 : Int32) →
      Q (1 : Int32) h
    ) ∧ ((mLook h) = (124 : Int32) →
      ∀ h3 : kM, h3 = kU h 88 6 ((h 88 6) + (1 : Int32)) →
      Cal G (d - 1) m_X8_both [.ref 88] h3 (fun x4 h5 =>
        ((¬ x4 = 0 →
          (okS h5) ∧
          ∀ h8 : kM, h8 = mStep h5 (3 : Int32) (124 : Int32) →
          at_X8_whole_9 G d Q  h8
        ) ∧ (x4 = 0 →
          Q (0 : Int32) h5
        ))
      )
    ))) : at_X8_whole_9 G d Q  h := by
  show Wp G d m_X8_whole (kEo G d m_X8_whole Q) 9 [.ref 88] [] h
  refine wp_aload_n 10 dX8_whole_9 rfl rfl ?_
  have c1 := H.1; replace H := H.2
  refine wp_cV (d - 1) 0 [] [] 13 dX8_whole_10 rfl (lk_X8_82 rfl) (by omega) kd_88 rfl rfl rfl (Nat.le_of_ble_eq_true rfl) (sp_X8_look (by omega) c1 ?_)
  refine wp_bipush (124 : Int32) 15 dX8_whole_13 kbipush_124 rfl ?_
  refine wp_icmp_ne 47 18 dX8_whole_15 rfl rfl ⟨fun c2 => ?_, fun c2 => ?_⟩
  · replace H := H.1 c2
    refine wp_iconst (1 : Int32) 48 dX8_whole_47 kiconst_1 rfl ?_
    exact wp_retz dX8_whole_48 rfl (Or.inr rfl) H
  · replace H := H.2 c2
    refine wp_aload_n 19 dX8_whole_18 rfl rfl ?_
    refine wp_dup 20 dX8_whole_19 rfl rfl ?_
    refine wp_getI 23 dX8_whole_20 rfl fl_X8_68 kd_88 rfl ?_
    refine wp_iconst (1 : Int32) 24 dX8_whole_23 kiconst_1 rfl ?_
    refine wp_iadd 25 dX8_whole_24 rfl ?_
    refine wp_putI 28 dX8_whole_25 rfl fl_X8_68 fin_8_6 kd_88 rfl ?_
    refine wp_nm (fun h3 eh3 => ?_)
    replace H := H h3 eh3
    refine wp_aload_n 29 dX8_whole_28 rfl rfl ?_
    refine wp_cV (d - 1) 0 [] [] 32 dX8_whole_29 rfl (lk_X8_78 rfl) (by omega) kd_88 rfl rfl rfl (Nat.le_of_ble_eq_true rfl) (H.mono (fun x4 h5 H => ?_))
    refine wp_if_ne 37 35 dX8_whole_32 rfl rfl ⟨fun c6 => ?_, fun c6 => ?_⟩
    · replace H := H.1 c6
      refine wp_aload_n 38 dX8_whole_37 rfl rfl ?_
      refine wp_iconst (3 : Int32) 39 dX8_whole_38 kiconst_3 rfl ?_
      refine wp_bipush (124 : Int32) 41 dX8_whole_39 kbipush_124 rfl ?_
      have c7 := H.1; replace H := H.2
      refine wp_cV (d - 1) 2 [.int (3 : Int32), .int (124 : Int32)] [] 44 dX8_whole_41 rfl (lk_X8_86 rfl) (by omega) kd_88 rfl rfl rfl (Nat.le_of_ble_eq_true rfl) (sp_X8_step1 (by omega) c7 (fun h8 eh8 => ?_))
      replace H := H h8 eh8
      refine wp_goto 9 dX8_whole_44 rfl ?_
      exact H
    · replace H := H.2 c6
      refine wp_iconst (0 : Int32) 36 dX8_whole_35 kiconst_0 rfl ?_
      exact wp_retz dX8_whole_36 rfl (Or.inl rfl) H

theorem kLvl_0 {c : Int32} : kLvl c = 0 ↔ c = 124 := by
  refine ⟨fun q => ?_, fun q => by subst q; decide⟩
  rcases kLvl_op (c := c) (by rw [q]; decide) with e | e | e | e | e | e | e | e | e | e <;> first | exact e | exact absurd q (by subst e; decide)
theorem kLvl_1 {c : Int32} : kLvl c = 1 ↔ c = 38 := by
  refine ⟨fun q => ?_, fun q => by subst q; decide⟩
  rcases kLvl_op (c := c) (by rw [q]; decide) with e | e | e | e | e | e | e | e | e | e <;> first | exact e | exact absurd q (by subst e; decide)
theorem kLvl_2 {c : Int32} : kLvl c = 2 ↔ c = 60 ∨ c = 61 ∨ c = 62 := by
  refine ⟨fun q => ?_, fun q => by rcases q with e | e | e <;> subst e <;> decide⟩
  rcases kLvl_op (c := c) (by rw [q]; decide) with e | e | e | e | e | e | e | e | e | e <;> first | exact Or.inl e | exact Or.inr (Or.inl e) | exact Or.inr (Or.inr e) | exact absurd q (by subst e; decide)
theorem kLvl_3 {c : Int32} : kLvl c = 3 ↔ c = 43 ∨ c = 45 := by
  refine ⟨fun q => ?_, fun q => by rcases q with e | e <;> subst e <;> decide⟩
  rcases kLvl_op (c := c) (by rw [q]; decide) with e | e | e | e | e | e | e | e | e | e <;> first | exact Or.inl e | exact Or.inr e | exact absurd q (by subst e; decide)
theorem kLvl_4 {c : Int32} : kLvl c = 4 ↔ c = 42 ∨ c = 47 ∨ c = 37 := by
  refine ⟨fun q => ?_, fun q => by rcases q with e | e | e <;> subst e <;> decide⟩
  rcases kLvl_op (c := c) (by rw [q]; decide) with e | e | e | e | e | e | e | e | e | e <;> first | exact Or.inl e | exact Or.inr (Or.inl e) | exact Or.inr (Or.inr e) | exact absurd q (by subst e; decide)
variable {h0 : kM} {T : Nat → Int32} {L : Nat} {u : Int32}
def mFr (h0 h : kM) (a : Nat) : Prop := (∀ q, q ≠ 88 → q ≠ 94 → h q = h0 q) ∧ (∀ j, j ≠ 6 → j ≠ 7 → j ≠ 8 → h 88 j = h0 88 j) ∧ h 88 6 = nI a
def mSt (h0 h : kM) (a o : Nat) (ts : List (Int32 × Int32)) : Prop := mFr h0 h a ∧ h 88 7 = nI o ∧ h 88 8 = nI ts.length ∧ ∀ i t, ts[i]? = some t → h 94 (2 * i) = t.1 ∧ h 94 (2 * i + 1) = t.2
def mEnd (h0 : kM) (r : kRes) (o : Nat) (ts : List (Int32 × Int32)) (x : Int32) (h : kM) : Prop := match r with
  | (b, none) => x = 0 ∧ mFr h0 h b
  | (b, some us) => x = 1 ∧ mSt h0 h b o (ts ++ us)
def mHy (h0 : kM) (T : Nat → Int32) (L : Nat) (u : Int32) : Prop := L ≤ 60 ∧ h0 89 4 = nI L ∧ (∀ i, i < L → h0 89 (397 + i) = T i) ∧ h0 88 9 = u
theorem m397 (a : Nat) : (397 : Int32) + nI a = nI (397 + a) := nI_add 397 a
theorem mFr.okL {a : Nat} (hy : mHy h0 T L u) (hs : mFr h0 h a) (ha : a ≤ L) : okL h := by
  intro q
  have hl := hy.1
  rw [hs.2.2, hs.1 89 (by decide) (by decide), hy.2.1] at q
  have q2 := (nI_ltI (by omega) (by omega)).mp q
  rw [hs.2.2, m397]
  exact vp_in_nI (by omega) (by decide)
theorem mFr.look {a : Nat} (hy : mHy h0 T L u) (hs : mFr h0 h a) (ha : a ≤ L) : mLook h = rNx T L a := by
  have hl := hy.1
  unfold mLook rNx
  rw [hs.2.2, hs.1 89 (by decide) (by decide), hy.2.1, m397, nI_clamp (by omega)]
  by_cases c : a < L
  · rw [if_pos (nI_lt c (by omega)), if_pos c, hy.2.2.1 a c]
  · rw [if_neg (nI_nlt (by omega) (by omega)), if_neg c]
theorem mFr.use {a : Nat} (hy : mHy h0 T L u) (hs : mFr h0 h a) : h 88 9 = u := by rw [hs.2.1 9 (by decide) (by decide) (by decide)]; exact hy.2.2.2
theorem mSt.adv {h1 : kM} {a o : Nat} {ts : List (Int32 × Int32)} (hs : mSt h0 h a o ts) (e : h1 = kU h 88 6 (h 88 6 + 1)) : mSt h0 h1 (a + 1) o ts := by
  subst e
  refine ⟨⟨fun q q1 q2 => by rw [kU_ne q1]; exact hs.1.1 q q1 q2, fun j j1 j2 j3 => by rw [kU_eq, pk_un j1]; exact hs.1.2.1 j j1 j2 j3, ?_⟩, ?_, ?_, ?_⟩
  · rw [kU_eq, pk_us, hs.1.2.2, nI_1]
  · rw [kU_eq, pk_un (by decide)]; exact hs.2.1
  · rw [kU_eq, pk_un (by decide)]; exact hs.2.2.1
  · rw [kU_ne (by decide)]; exact hs.2.2.2
theorem mSt.opn {h1 : kM} {a o : Nat} {ts : List (Int32 × Int32)} {x : Nat} {v : Int32} (hs : mSt h0 h a o ts) (e : h1 = kU h 88 7 v) (hv : v = nI x) : mSt h0 h1 a x ts := by
  subst e
  refine ⟨⟨fun q q1 q2 => by rw [kU_ne q1]; exact hs.1.1 q q1 q2, fun j j1 j2 j3 => by rw [kU_eq, pk_un j2]; exact hs.1.2.1 j j1 j2 j3, ?_⟩, ?_, ?_, ?_⟩
  · rw [kU_eq, pk_un (by decide)]; exact hs.1.2.2
  · rw [kU_eq, pk_us]; exact hv
  · rw [kU_eq, pk_un (by decide)]; exact hs.2.2.1
  · rw [kU_ne (by decide)]; exact hs.2.2.2
theorem m2n (n : Nat) : (2 : Int32) * nI n = nI (2 * n) := (Int32.ofNat_mul 2 n).symm
theorem mSt.okS {a o : Nat} {ts : List (Int32 × Int32)} (hs : mSt h0 h a o ts) (hn : ts.length ≤ 60) : okS h := by
  refine ⟨?_, ?_⟩
  · rw [hs.2.2.1, m2n]
    exact vp_in_nI (by omega) (by decide)
  · rw [hs.2.2.1, m2n, nI_1]
    exact vp_in_nI (by omega) (by decide)
theorem mSt.step {h1 : kM} {a o : Nat} {ts : List (Int32 × Int32)} {w v : Int32} (hs : mSt h0 h a o ts) (hn : ts.length ≤ 60) (e : h1 = mStep h w v) : mSt h0 h1 a o (ts ++ [(w, v)]) := by
  have e1 : ((2 : Int32) * h 88 8).toNatClampNeg = 2 * ts.length := by rw [hs.2.2.1, m2n, nI_clamp (by omega)]
  have e2 : ((2 : Int32) * h 88 8 + 1).toNatClampNeg = 2 * ts.length + 1 := by rw [hs.2.2.1, m2n, nI_1, nI_clamp (by omega)]
  unfold mStep at e
  rw [e1, e2] at e
  have x88 : h1 88 = upd (h 88) 8 (h 88 8 + 1) := by rw [e, kU_eq, kU_ne (by decide), kU_ne (by decide)]
  have x94 : h1 94 = upd (upd (h 94) (2 * ts.length) w) (2 * ts.length + 1) v := by rw [e, kU_ne (by decide), kU_eq, kU_eq]
  refine ⟨⟨fun q q1 q2 => by rw [e, kU_ne q1, kU_ne q2, kU_ne q2]; exact hs.1.1 q q1 q2, fun j j1 j2 j3 => by rw [x88, pk_un j3]; exact hs.1.2.1 j j1 j2 j3, ?_⟩, ?_, ?_, fun i t ht => ?_⟩
  · rw [x88, pk_un (by decide)]; exact hs.1.2.2
  · rw [x88, pk_un (by decide)]; exact hs.2.1
  · rw [x88, pk_us, hs.2.2.1, nI_1, List.length_append]
    rfl
  · rw [x94]
    by_cases q : i < ts.length
    · rw [List.getElem?_append_left q] at ht
      rw [pk_un (by omega), pk_un (by omega), pk_un (by omega), pk_un (by omega)]
      exact hs.2.2.2 i t ht
    · rw [List.getElem?_append_right (by omega)] at ht
      have q2 : i = ts.length := by
        have q3 := (List.getElem?_eq_some_iff.mp ht).1
        have q4 : ([(w, v)] : List (Int32 × Int32)).length = 1 := rfl
        omega
      subst q2
      rw [Nat.sub_self] at ht
      have ht2 : (w, v) = t := Option.some.inj ht
      subst ht2
      rw [pk_un (by omega), pk_us, pk_us]
      exact ⟨rfl, rfl⟩
def mSp (G : kG) (h0 : kM) (T : Nat → Int32) (L : Nat) (u : Int32) (m : kMt) (f l : Nat) : Prop := ∀ (d : Nat) (Q : Int32 → kM → Prop) (h : kM) (a : Nat) (ts : List (Int32 × Int32)) (o : Nat), o ≤ 5 → f = 6 * (5 - o) + (5 - l) → f + 5 ≤ d → mSt h0 h a o ts → a ≤ L → ts.length ≤ a → (∀ x h', mEnd h0 (rP T L u f a) o ts x h' → Q x h') → Cal G d m [.ref 88] h Q
/-- an operator and its second operand -/
theorem mIter (hy : mHy h0 T L u) {inner : kMt} {P : kM → Prop} {f l o : Nat} (hin : mSp G h0 T L u inner (f - 1) (l + 1)) (hl : l < 5) (ho : o ≤ 5) (ef : f = 6 * (5 - o) + (5 - l)) (hd : f + 5 ≤ d) {a : Nat} {ts us : List (Int32 × Int32)} {h3 : kM} {c : Int32} (hs : mSt h0 h a o (ts ++ us)) (ha : a ≤ L) (hn : (ts ++ us).length ≤ a) (e3 : h3 = kU h 88 6 (h 88 6 + 1)) (hc : rNx T L a = c) (hk : kLvl c = nI l)
    (kb : ∀ b h5, rP T L u (f - 1) (a + 1) = (b, none) → mFr h0 h5 b → Q 0 h5)
    (kk : ∀ b vs h8, rP T L u (f - 1) (a + 1) = (b, some vs) → mSt h0 h8 b o (ts ++ (us ++ vs ++ [(3, c)])) → b ≤ L → a + 1 ≤ b → (ts ++ (us ++ vs ++ [(3, c)])).length ≤ b → P h8) : Cal G (d - 1) inner [.ref 88] h3 (fun x h5 => (¬ x = 0 → okS h5 ∧ ∀ h8, h8 = mStep h5 3 c → P h8) ∧ (x = 0 → Q 0 h5)) := by
  have hL := hy.1
  have c5 : ¬ kLvl (rNx T L a) = 5 := by
    rw [hc, hk]
    intro q
    have q2 := (nI_eq (a := l) (b := 5) (by omega) (by decide)).mp q
    omega
  have hlt : a < L := rNx_lt fun q => c5 (by rw [q]; exact kLvl_m1)
  have hg := rP_good (T := T) (u := u) (f - 1 + 1) (f - 1) (by omega) (a + 1) hlt
  refine hin (d - 1) _ h3 (a + 1) (ts ++ us) o ho (by omega) (by omega) (hs.adv e3) hlt (by omega) (fun x h5 s5 => ?_)
  generalize rP T L u (f - 1) (a + 1) = r at kb kk s5 hg
  obtain ⟨b, z⟩ := r
  cases z with
  | none => exact ⟨fun q => absurd s5.1 q, fun _ => kb b h5 rfl s5.2⟩
  | some vs =>
    obtain ⟨g1, g2, g3⟩ := hg
    have g4 := (g3 vs rfl).1
    have g4' : vs.length + (a + 1) ≤ b := g4
    have g2' : b ≤ L := g2
    have g1' : a + 1 ≤ b := g1
    have s6 : mSt h0 h5 b o (ts ++ us ++ vs) := s5.2
    have n6 : (ts ++ us ++ vs).length + 1 ≤ b := by rw [List.length_append]; omega
    refine ⟨fun _ => ⟨s6.okS (by omega), fun h8 e8 => ?_⟩, fun q => absurd (s5.1.symm.trans q) (by decide)⟩
    have e : ts ++ us ++ vs ++ [(3, c)] = ts ++ (us ++ vs ++ [(3, c)]) := by simp only [List.append_assoc]
    refine kk b vs h8 rfl (by rw [← e]; exact s6.step (by omega) e8) g2' g1' ?_
    rw [← e, List.length_append]
    exact n6
theorem mLoop (hy : mHy h0 T L u) {inner : kMt} {at9 : kM → Prop} {f l o : Nat} (hin : mSp G h0 T L u inner (f - 1) (l + 1)) (hl : l < 5) (ho : o ≤ 5) (ef : f = 6 * (5 - o) + (5 - l)) (hd : f + 5 ≤ d) {ts : List (Int32 × Int32)}
    (hstep : ∀ h, okL h → (¬ kLvl (mLook h) = nI l → Q 1 h) → (kLvl (mLook h) = nI l → ∀ h3, h3 = kU h 88 6 (h 88 6 + 1) → Cal G (d - 1) inner [.ref 88] h3 (fun x h5 => (¬ x = 0 → okS h5 ∧ ∀ h8, h8 = mStep h5 3 (mLook h) → at9 h8) ∧ (x = 0 → Q 0 h5))) → at9 h) : ∀ (k a : Nat) (us : List (Int32 × Int32)) (h : kM), 60 ≤ a + k → mSt h0 h a o (ts ++ us) → a ≤ L → (ts ++ us).length ≤ a → (∀ x h', mEnd h0 (rLoop T L (nI l) (rP T L u (f - 1)) k a us) o ts x h' → Q x h') → at9 h
  | 0, a, us, h, hk, hs, ha, hn, k => by
    have hL := hy.1
    refine hstep h (hs.1.okL hy ha) (fun _ => k 1 h ⟨rfl, hs⟩) (fun c => ?_)
    rw [hs.1.look hy ha] at c
    have e : rNx T L a = -1 := if_neg (by omega)
    rw [e, kLvl_m1] at c
    have q2 := (nI_eq (a := 5) (b := l) (by decide) (by omega)).mp c
    omega
  | n + 1, a, us, h, hk, hs, ha, hn, k => by
    have eR : rLoop T L (nI l) (rP T L u (f - 1)) (n + 1) a us = if kLvl (rNx T L a) = nI l then (match rP T L u (f - 1) (a + 1) with
      | (b, none) => (b, none)
      | (b, some vs) => rLoop T L (nI l) (rP T L u (f - 1)) n b (us ++ vs ++ [(3, rNx T L a)])) else (a, some us) := rfl
    rw [eR] at k
    refine hstep h (hs.1.okL hy ha) (fun c => k 1 h ?_) (fun c h3 e3 => ?_)
    · rw [hs.1.look hy ha] at c
      rw [if_neg c]
      exact ⟨rfl, hs⟩
    · rw [hs.1.look hy ha] at c ⊢
      rw [if_pos c] at k
      refine mIter (ts := ts) (us := us) hy hin hl ho ef hd hs ha hn e3 rfl c (fun b h5 e f5 => ?_) (fun b vs h8 e s8 hb hab hn8 => ?_)
      · rw [e] at k
        exact k 0 h5 ⟨rfl, f5⟩
      · rw [e] at k
        exact mLoop hy hin hl ho ef hd hstep n b (us ++ vs ++ [(3, rNx T L a)]) h8 (by omega) s8 hb hn8 k
theorem mLevel (hy : mHy h0 T L u) {m inner : kMt} {f l : Nat} (at9 : Nat → (Int32 → kM → Prop) → kM → Prop) (hl : l < 5) (hl2 : ¬ l = 2) (hin : mSp G h0 T L u inner (f - 1) (l + 1))
    (hfirst : ∀ d Q h, 3 ≤ d → Cal G (d - 1) inner [.ref 88] h (fun x h2 => (¬ x = 0 → at9 d Q h2) ∧ (x = 0 → Q 0 h2)) → Cal G d m [.ref 88] h Q)
    (hstep : ∀ d Q, 3 ≤ d → ∀ h, okL h → (¬ kLvl (mLook h) = nI l → Q 1 h) → (kLvl (mLook h) = nI l → ∀ h3, h3 = kU h 88 6 (h 88 6 + 1) → Cal G (d - 1) inner [.ref 88] h3 (fun x h5 => (¬ x = 0 → okS h5 ∧ ∀ h8, h8 = mStep h5 3 (mLook h) → at9 d Q h8) ∧ (x = 0 → Q 0 h5))) → at9 d Q h) : mSp G h0 T L u m f l := by
  intro d Q h a ts o ho ef hd hs ha hn k
  have hf6 : ¬ f % 6 = 0 := by omega
  have el : 5 - f % 6 = l := by omega
  have em : rMost l = 60 := if_neg hl2
  rw [rP_lvl hf6, el, em] at k
  have hg := rP_good (T := T) (u := u) (f - 1 + 1) (f - 1) (by omega) a ha
  refine hfirst d Q h (by omega) (hin (d - 1) _ h a ts o ho (by omega) (by omega) hs ha hn (fun x h2 s2 => ?_))
  generalize rP T L u (f - 1) a = r at k s2 hg
  obtain ⟨b, z⟩ := r
  cases z with
  | none => exact ⟨fun q => absurd s2.1 q, fun q => k 0 h2 ⟨rfl, s2.2⟩⟩
  | some us =>
    obtain ⟨g1, g2, g3⟩ := hg
    have g4 := (g3 us rfl).1
    have g4' : us.length + a ≤ b := g4
    refine ⟨fun _ => ?_, fun q => absurd (s2.1.symm.trans q) (by decide)⟩
    exact mLoop hy hin hl ho ef hd (hstep d Q (by omega)) 60 b us h2 (by omega) s2.2 g2 (by rw [List.length_append]; omega) k
end MRead

