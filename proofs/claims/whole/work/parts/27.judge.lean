/-! judge, move -/
section Judge
variable {G : kG} {d : Nat} {Q : Int32 → kM → Prop} {h : kM}
def at_X7_judge_56 (G : kG) (d : Nat) (Q : Int32 → kM → Prop)  (v1 : Int32) (v2 : Int32) (r3 : Nat) (v4 : Int32) (v5 : Int32) (h : kM) : Prop := Wp G d m_X7_judge (kEo G d m_X7_judge Q) 56 [.ref 0, .int v1, .int v2, .ref r3, .int v4, .int v5] [] h
theorem sg_X7_judge_0 {G : kG} {d : Nat} {Q : Int32 → kM → Prop}  {a1 : Int32} {a2 : Int32} {h : kM} (hd : 7 ≤ d)  (H :
    (((kb (0 ≤ a1 ∧ a1 < (4 : Int32))) = 0 →
      (vp_in (1 : Int32) 7) ∧
      ∀ h3 : kM, h3 = kErr h 87 (1 : Int32) →
      Q (-1000000000 - (1 : Int32)) h3
    ) ∧ (¬ ((kb (0 ≤ a1 ∧ a1 < (4 : Int32))) = 0) →
      ((¬ (kb (0 ≤ a2 ∧ a2 < h 1 12)) = 0 →
        (vp_in a1 4) ∧
        ∀ q6 : Nat, q6 = 79 + 2 * (a1).toNatClampNeg → kSht q6 →
        ((¬ (kb (¬ h q6 1 = 0)) = 0 →
          (vp_in a2 5) ∧
          at_X7_judge_56 G d Q a1 a2 q6 (h 4 (a2).toNatClampNeg) (0 : Int32) h
        ) ∧ ((kb (¬ h q6 1 = 0)) = 0 →
          (vp_in (2 : Int32) 7) ∧
          ∀ h10 : kM, h10 = kErr h 87 (2 : Int32) →
          Q (-1000000000 - (2 : Int32)) h10
        ))
      ) ∧ ((kb (0 ≤ a2 ∧ a2 < h 1 12)) = 0 →
        (vp_in (1 : Int32) 7) ∧
        ∀ h12 : kM, h12 = kErr h 87 (1 : Int32) →
        Q (-1000000000 - (1 : Int32)) h12
      ))
    ))) : Wp G d m_X7_judge (kEo G d m_X7_judge Q) 0 [.ref 0, .int a1, .int a2, .null, .null, .null] [] h := by
  refine wp_iload_n 1 dX7_judge_0 rfl rfl ?_
  refine wp_iconst (4 : Int32) 2 dX7_judge_1 kiconst_4 rfl ?_
  refine wp_cS (d - 1) 2 [.int a1, .int (4 : Int32)] [] 5 dX7_judge_2 rfl (lk_X7_58 rfl) (by omega) rfl rfl (Nat.le_of_ble_eq_true rfl) (sp_X7_within (by omega)  ?_)
  refine wp_if_eq 16 8 dX7_judge_5 rfl rfl ⟨fun c1 => ?_, fun c1 => ?_⟩
  · replace H := H.1 c1
    refine wp_aload_n 17 dX7_judge_16 rfl rfl ?_
    refine wp_iconst (1 : Int32) 18 dX7_judge_17 kiconst_1 rfl ?_
    have c2 := H.1; replace H := H.2
    refine wp_cV (d - 1) 1 [.int (1 : Int32)] [] 21 dX7_judge_18 rfl (lk_X7_62 rfl) (by omega) kd_0 rfl rfl rfl (Nat.le_of_ble_eq_true rfl) (sp_X7_error (by omega) c2 (fun h3 eh3 => ?_))
    replace H := H h3 eh3
    exact wp_reti dX7_judge_21 rfl H
  · replace H := H.2 c1
    refine wp_aload_n 9 dX7_judge_8 rfl rfl ?_
    refine wp_iload_n 10 dX7_judge_9 rfl rfl ?_
    refine wp_cV (d - 1) 1 [.int a2] [] 13 dX7_judge_10 rfl (lk_X7_84 rfl) (by omega) kd_0 rfl rfl rfl (Nat.le_of_ble_eq_true rfl) (sp_X7_isShip (by omega)  ?_)
    refine wp_if_ne 22 16 dX7_judge_13 rfl rfl ⟨fun c4 => ?_, fun c4 => ?_⟩
    · replace H := H.1 c4
      refine wp_aload_n 23 dX7_judge_22 rfl rfl ?_
      refine wp_getR 78 78 26 dX7_judge_23 rfl fl_X7_49 kd_0 rfl rfl rfl rfl ?_
      refine wp_iload_n 27 dX7_judge_26 rfl rfl ?_
      have c5 := H.1; replace H := H.2
      refine wp_sheet 28 dX7_judge_27 rfl c5 (fun q6 eq6 k_q6 => ?_)
      replace H := H q6 eq6 k_q6
      refine wp_astore_n 29 dX7_judge_28 rfl (Nat.le_of_ble_eq_true rfl) rfl ?_
      refine wp_aload_n 30 dX7_judge_29 rfl rfl ?_
      refine wp_cV (d - 1) 0 [] [] 33 dX7_judge_30 rfl (lk_X7_221 rfl) (by omega) (kSht_0 k_q6) rfl rfl rfl (Nat.le_of_ble_eq_true rfl) (sp_X4_isThere (by omega) k_q6 ?_)
      refine wp_if_ne 42 36 dX7_judge_33 rfl rfl ⟨fun c7 => ?_, fun c7 => ?_⟩
      · replace H := H.1 c7
        refine wp_aload_n 43 dX7_judge_42 rfl rfl ?_
        refine wp_getR 1 1 46 dX7_judge_43 rfl fl_X7_12 kd_0 rfl rfl rfl rfl ?_
        refine wp_getR 3 4 49 dX7_judge_46 rfl fl_X7_88 kd_1 rfl rfl rfl rfl ?_
        refine wp_iload_n 50 dX7_judge_49 rfl rfl ?_
        have c8 := H.1; replace H := H.2
        refine wp_iald 51 dX7_judge_50 rfl kd_4 c8 ?_
        refine wp_istore 53 dX7_judge_51 rfl (Nat.le_of_ble_eq_true rfl) rfl ?_
        refine wp_iconst (0 : Int32) 54 dX7_judge_53 kiconst_0 rfl ?_
        refine wp_istore 56 dX7_judge_54 rfl (Nat.le_of_ble_eq_true rfl) rfl ?_
        exact H
      · replace H := H.2 c7
        refine wp_aload_n 37 dX7_judge_36 rfl rfl ?_
        refine wp_iconst (2 : Int32) 38 dX7_judge_37 kiconst_2 rfl ?_
        have c9 := H.1; replace H := H.2
        refine wp_cV (d - 1) 1 [.int (2 : Int32)] [] 41 dX7_judge_38 rfl (lk_X7_62 rfl) (by omega) kd_0 rfl rfl rfl (Nat.le_of_ble_eq_true rfl) (sp_X7_error (by omega) c9 (fun h10 eh10 => ?_))
        replace H := H h10 eh10
        exact wp_reti dX7_judge_41 rfl H
    · replace H := H.2 c4
      refine wp_aload_n 17 dX7_judge_16 rfl rfl ?_
      refine wp_iconst (1 : Int32) 18 dX7_judge_17 kiconst_1 rfl ?_
      have c11 := H.1; replace H := H.2
      refine wp_cV (d - 1) 1 [.int (1 : Int32)] [] 21 dX7_judge_18 rfl (lk_X7_62 rfl) (by omega) kd_0 rfl rfl rfl (Nat.le_of_ble_eq_true rfl) (sp_X7_error (by omega) c11 (fun h12 eh12 => ?_))
      replace H := H h12 eh12
      exact wp_reti dX7_judge_21 rfl H

theorem cg_X7_judge {G : kG} {d : Nat} {Q : Int32 → kM → Prop}  {a1 : Int32} {a2 : Int32} {h : kM} (hd : 7 ≤ d)  (H :
    (((kb (0 ≤ a1 ∧ a1 < (4 : Int32))) = 0 →
      (vp_in (1 : Int32) 7) ∧
      ∀ h3 : kM, h3 = kErr h 87 (1 : Int32) →
      Q (-1000000000 - (1 : Int32)) h3
    ) ∧ (¬ ((kb (0 ≤ a1 ∧ a1 < (4 : Int32))) = 0) →
      ((¬ (kb (0 ≤ a2 ∧ a2 < h 1 12)) = 0 →
        (vp_in a1 4) ∧
        ∀ q6 : Nat, q6 = 79 + 2 * (a1).toNatClampNeg → kSht q6 →
        ((¬ (kb (¬ h q6 1 = 0)) = 0 →
          (vp_in a2 5) ∧
          at_X7_judge_56 G d Q a1 a2 q6 (h 4 (a2).toNatClampNeg) (0 : Int32) h
        ) ∧ ((kb (¬ h q6 1 = 0)) = 0 →
          (vp_in (2 : Int32) 7) ∧
          ∀ h10 : kM, h10 = kErr h 87 (2 : Int32) →
          Q (-1000000000 - (2 : Int32)) h10
        ))
      ) ∧ ((kb (0 ≤ a2 ∧ a2 < h 1 12)) = 0 →
        (vp_in (1 : Int32) 7) ∧
        ∀ h12 : kM, h12 = kErr h 87 (1 : Int32) →
        Q (-1000000000 - (1 : Int32)) h12
      ))
    ))) : Cal G d m_X7_judge [.ref 0, .int a1, .int a2] h Q :=
  Cal.of [.ref 0, .int a1, .int a2, .null, .null, .null] (by decide +kernel) (Nat.le_of_ble_eq_true rfl) rfl (sg_X7_judge_0 hd  H)

theorem sg_X7_judge_56 {G : kG} {d : Nat} {Q : Int32 → kM → Prop}  {v1 : Int32} {v2 : Int32} {r3 : Nat} {v4 : Int32} {v5 : Int32} {h : kM} (hd : 7 ≤ d) (k_r3 : kSht r3) (H :
    (((h r3 2) ≤ v5 →
      Q (h r3 2) h
    ) ∧ (¬ ((h r3 2) ≤ v5) →
      (vp_in v5 24) ∧
      (((h (r3 + 1) (v5).toNatClampNeg) = (iR v4 64) →
        Cal G (d - 1) m_X2_placeBehindHour [.ref 1, .int v2, .int v4, .int ((h 1 13) + v5)] h (fun x4 h5 =>
          at_X7_judge_56 G d Q v1 v2 r3 x4 (v5 + (1 : Int32)) h5
        )
      ) ∧ (¬ ((h (r3 + 1) (v5).toNatClampNeg) = (iR v4 64)) →
        Q v5 h
      ))
    ))) : at_X7_judge_56 G d Q v1 v2 r3 v4 v5 h := by
  show Wp G d m_X7_judge (kEo G d m_X7_judge Q) 56 [.ref 0, .int v1, .int v2, .ref r3, .int v4, .int v5] [] h
  refine wp_iload 58 dX7_judge_56 rfl rfl ?_
  refine wp_aload_n 59 dX7_judge_58 rfl rfl ?_
  refine wp_getI 62 dX7_judge_59 rfl fl_X7_222 (kSht_0 k_r3) rfl ?_
  refine wp_icmp_ge 111 65 dX7_judge_62 rfl rfl ⟨fun c1 => ?_, fun c1 => ?_⟩
  · replace H := H.1 c1
    refine wp_aload_n 112 dX7_judge_111 rfl rfl ?_
    refine wp_getI 115 dX7_judge_112 rfl fl_X7_222 (kSht_0 k_r3) rfl ?_
    exact wp_reti dX7_judge_115 rfl H
  · replace H := H.2 c1
    refine wp_aload_n 66 dX7_judge_65 rfl rfl ?_
    refine wp_getR 1 (r3 + 1) 69 dX7_judge_66 rfl fl_X7_225 (kSht_0 k_r3) rfl rfl rfl rfl ?_
    refine wp_iload 71 dX7_judge_69 rfl rfl ?_
    have c2 := H.1; replace H := H.2
    refine wp_iald 72 dX7_judge_71 rfl (kSht_1 k_r3) c2 ?_
    refine wp_iload 74 dX7_judge_72 rfl rfl ?_
    refine wp_cS (d - 1) 1 [.int v4] [.int (h (r3 + 1) (v5).toNatClampNeg)] 77 dX7_judge_74 rfl (lk_X7_95 rfl) (by omega) rfl rfl (Nat.le_of_ble_eq_true rfl) (sp_X7_cellOf (by omega)  ?_)
    refine wp_icmp_eq 83 80 dX7_judge_77 rfl rfl ⟨fun c3 => ?_, fun c3 => ?_⟩
    · replace H := H.1 c3
      refine wp_aload_n 84 dX7_judge_83 rfl rfl ?_
      refine wp_getR 1 1 87 dX7_judge_84 rfl fl_X7_12 kd_0 rfl rfl rfl rfl ?_
      refine wp_iload_n 88 dX7_judge_87 rfl rfl ?_
      refine wp_iload 90 dX7_judge_88 rfl rfl ?_
      refine wp_aload_n 91 dX7_judge_90 rfl rfl ?_
      refine wp_getR 1 1 94 dX7_judge_91 rfl fl_X7_12 kd_0 rfl rfl rfl rfl ?_
      refine wp_getI 97 dX7_judge_94 rfl fl_X7_126 kd_1 rfl ?_
      refine wp_iload 99 dX7_judge_97 rfl rfl ?_
      refine wp_iadd 100 dX7_judge_99 rfl ?_
      refine wp_cV (d - 1) 3 [.int v2, .int v4, .int ((h 1 13) + v5)] [] 103 dX7_judge_100 rfl (lk_X7_186 rfl) (by omega) kd_1 rfl rfl rfl (Nat.le_of_ble_eq_true rfl) (H.mono (fun x4 h5 H => ?_))
      refine wp_istore 105 dX7_judge_103 rfl (Nat.le_of_ble_eq_true rfl) rfl ?_
      refine wp_iinc (1 : Int32) 108 dX7_judge_105 rfl rfl kiconst_1 (Nat.le_of_ble_eq_true rfl) rfl ?_
      refine wp_goto 56 dX7_judge_108 rfl ?_
      exact H
    · replace H := H.2 c3
      refine wp_iload 82 dX7_judge_80 rfl rfl ?_
      exact wp_reti dX7_judge_82 rfl H

def at_X8_judge_36 (G : kG) (d : Nat) (Q : Int32 → kM → Prop)  (v1 : Int32) (v2 : Int32) (v3 : Int32) (v4 : Int32) (h : kM) : Prop := Wp G d m_X8_judge (kEo G d m_X8_judge Q) 36 [.ref 88, .int v1, .int v2, .int v3, .int v4] [] h
theorem sg_X8_judge_0 {G : kG} {d : Nat} {Q : Int32 → kM → Prop}  {a1 : Int32} {a2 : Int32} {h : kM} (hd : 8 ≤ d)  (H :
    (((kb (0 ≤ a2 ∧ a2 ≤ h 89 0 - 1)) = 0 →
      (vp_in (1 : Int32) 7) ∧
      ∀ h3 : kM, h3 = kErr h 93 (1 : Int32) →
      Q (-1000000000 - (1 : Int32)) h3
    ) ∧ (¬ ((kb (0 ≤ a2 ∧ a2 ≤ h 89 0 - 1)) = 0) →
      (((mLacks (h 98) a1) ≤ 0 →
        ∀ h5 : kM, h5 = kCp h 89 92 0 0 147 →
        at_X8_judge_36 G d Q a1 a2 (mLacks (h 98) a1) (0 : Int32) h5
      ) ∧ (¬ ((mLacks (h 98) a1) ≤ 0) →
        (vp_in (mLacks (h 98) a1) 7) ∧
        ∀ h7 : kM, h7 = kErr h 93 (mLacks (h 98) a1) →
        Q (-1000000000 - (mLacks (h 98) a1)) h7
      ))
    ))) : Wp G d m_X8_judge (kEo G d m_X8_judge Q) 0 [.ref 88, .int a1, .int a2, .null, .null] [] h := by
  refine wp_aload_n 1 dX8_judge_0 rfl rfl ?_
  refine wp_iload_n 2 dX8_judge_1 rfl rfl ?_
  refine wp_cV (d - 1) 1 [.int a2] [] 5 dX8_judge_2 rfl (lk_X8_54 rfl) (by omega) kd_88 rfl rfl rfl (Nat.le_of_ble_eq_true rfl) (sp_X8_isShip (by omega)  ?_)
  refine wp_if_eq 16 8 dX8_judge_5 rfl rfl ⟨fun c1 => ?_, fun c1 => ?_⟩
  · replace H := H.1 c1
    refine wp_iconst (1 : Int32) 17 dX8_judge_16 kiconst_1 rfl ?_
    refine wp_istore_n 18 dX8_judge_17 rfl (Nat.le_of_ble_eq_true rfl) rfl ?_
    refine wp_iload_n 19 dX8_judge_18 rfl rfl ?_
    refine wp_if_le 28 22 dX8_judge_19 rfl rfl ⟨fun c => absurd c (by decide), fun c => ?_⟩
    refine wp_aload_n 23 dX8_judge_22 rfl rfl ?_
    refine wp_iload_n 24 dX8_judge_23 rfl rfl ?_
    have c2 := H.1; replace H := H.2
    refine wp_cV (d - 1) 1 [.int (1 : Int32)] [] 27 dX8_judge_24 rfl (lk_X8_62 rfl) (by omega) kd_88 rfl rfl rfl (Nat.le_of_ble_eq_true rfl) (sp_X8_error (by omega) c2 (fun h3 eh3 => ?_))
    replace H := H h3 eh3
    exact wp_reti dX8_judge_27 rfl H
  · replace H := H.2 c1
    refine wp_aload_n 9 dX8_judge_8 rfl rfl ?_
    refine wp_iload_n 10 dX8_judge_9 rfl rfl ?_
    refine wp_cV (d - 1) 1 [.int a1] [] 13 dX8_judge_10 rfl (lk_X8_281 rfl) (by omega) kd_88 rfl rfl rfl (Nat.le_of_ble_eq_true rfl) (sp_X8_lacks (by omega)  ?_)
    refine wp_goto 17 dX8_judge_13 rfl ?_
    refine wp_istore_n 18 dX8_judge_17 rfl (Nat.le_of_ble_eq_true rfl) rfl ?_
    refine wp_iload_n 19 dX8_judge_18 rfl rfl ?_
    refine wp_if_le 28 22 dX8_judge_19 rfl rfl ⟨fun c4 => ?_, fun c4 => ?_⟩
    · replace H := H.1 c4
      refine wp_aload_n 29 dX8_judge_28 rfl rfl ?_
      refine wp_iconst (0 : Int32) 30 dX8_judge_29 kiconst_0 rfl ?_
      refine wp_cV (d - 1) 1 [.int (0 : Int32)] [] 33 dX8_judge_30 rfl (lk_X8_200 rfl) (by omega) kd_88 rfl rfl rfl (Nat.le_of_ble_eq_true rfl) (sp_X8_layDown (by omega)  (fun h5 eh5 => ?_))
      replace H := H h5 eh5
      refine wp_iconst (0 : Int32) 34 dX8_judge_33 kiconst_0 rfl ?_
      refine wp_istore 36 dX8_judge_34 rfl (Nat.le_of_ble_eq_true rfl) rfl ?_
      exact H
    · replace H := H.2 c4
      refine wp_aload_n 23 dX8_judge_22 rfl rfl ?_
      refine wp_iload_n 24 dX8_judge_23 rfl rfl ?_
      have c6 := H.1; replace H := H.2
      refine wp_cV (d - 1) 1 [.int (mLacks (h 98) a1)] [] 27 dX8_judge_24 rfl (lk_X8_62 rfl) (by omega) kd_88 rfl rfl rfl (Nat.le_of_ble_eq_true rfl) (sp_X8_error (by omega) c6 (fun h7 eh7 => ?_))
      replace H := H h7 eh7
      exact wp_reti dX8_judge_27 rfl H

theorem cg_X8_judge {G : kG} {d : Nat} {Q : Int32 → kM → Prop}  {a1 : Int32} {a2 : Int32} {h : kM} (hd : 8 ≤ d)  (H :
    (((kb (0 ≤ a2 ∧ a2 ≤ h 89 0 - 1)) = 0 →
      (vp_in (1 : Int32) 7) ∧
      ∀ h3 : kM, h3 = kErr h 93 (1 : Int32) →
      Q (-1000000000 - (1 : Int32)) h3
    ) ∧ (¬ ((kb (0 ≤ a2 ∧ a2 ≤ h 89 0 - 1)) = 0) →
      (((mLacks (h 98) a1) ≤ 0 →
        ∀ h5 : kM, h5 = kCp h 89 92 0 0 147 →
        at_X8_judge_36 G d Q a1 a2 (mLacks (h 98) a1) (0 : Int32) h5
      ) ∧ (¬ ((mLacks (h 98) a1) ≤ 0) →
        (vp_in (mLacks (h 98) a1) 7) ∧
        ∀ h7 : kM, h7 = kErr h 93 (mLacks (h 98) a1) →
        Q (-1000000000 - (mLacks (h 98) a1)) h7
      ))
    ))) : Cal G d m_X8_judge [.ref 88, .int a1, .int a2] h Q :=
  Cal.of [.ref 88, .int a1, .int a2, .null, .null] (by decide +kernel) (Nat.le_of_ble_eq_true rfl) rfl (sg_X8_judge_0 hd  H)

theorem sg_X8_judge_36 {G : kG} {d : Nat} {Q : Int32 → kM → Prop}  {v1 : Int32} {v2 : Int32} {v3 : Int32} {v4 : Int32} {h : kM} (hd : 8 ≤ d)  (H :
    (vp_in v1 4) ∧
    (((h 99 (v1).toNatClampNeg) ≤ v4 →
      ∀ h3 : kM, h3 = kCp h 92 89 0 0 147 →
      Q v4 h3
    ) ∧ (¬ ((h 99 (v1).toNatClampNeg) ≤ v4) →
      (vp_in (((24 : Int32) * v1) + v4) 96) ∧
      (okO v2 (0 : Int32)) ∧
      ((¬ (h 100 ((((24 : Int32) * v1) + v4)).toNatClampNeg) = (mOf (h 89) v2 (0 : Int32)) →
        ∀ h7 : kM, h7 = kCp h 92 89 0 0 147 →
        Q v4 h7
      ) ∧ ((h 100 ((((24 : Int32) * v1) + v4)).toNatClampNeg) = (mOf (h 89) v2 (0 : Int32)) →
        Cal G (d - 1) m_X8_hour [.ref 88] h (fun x8 h9 =>
          at_X8_judge_36 G d Q v1 v2 v3 (v4 + (1 : Int32)) h9
        )
      ))
    ))) : at_X8_judge_36 G d Q v1 v2 v3 v4 h := by
  show Wp G d m_X8_judge (kEo G d m_X8_judge Q) 36 [.ref 88, .int v1, .int v2, .int v3, .int v4] [] h
  refine wp_iload 38 dX8_judge_36 rfl rfl ?_
  refine wp_aload_n 39 dX8_judge_38 rfl rfl ?_
  refine wp_getR 11 99 42 dX8_judge_39 rfl fl_X8_40 kd_88 rfl rfl rfl rfl ?_
  refine wp_iload_n 43 dX8_judge_42 rfl rfl ?_
  have c1 := H.1; replace H := H.2
  refine wp_iald 44 dX8_judge_43 rfl kd_99 c1 ?_
  refine wp_icmp_ge 78 47 dX8_judge_44 rfl rfl ⟨fun c2 => ?_, fun c2 => ?_⟩
  · replace H := H.1 c2
    refine wp_aload_n 79 dX8_judge_78 rfl rfl ?_
    refine wp_iconst (0 : Int32) 80 dX8_judge_79 kiconst_0 rfl ?_
    refine wp_cV (d - 1) 1 [.int (0 : Int32)] [] 83 dX8_judge_80 rfl (lk_X8_203 rfl) (by omega) kd_88 rfl rfl rfl (Nat.le_of_ble_eq_true rfl) (sp_X8_layBack (by omega)  (fun h3 eh3 => ?_))
    replace H := H h3 eh3
    refine wp_iload 85 dX8_judge_83 rfl rfl ?_
    exact wp_reti dX8_judge_85 rfl H
  · replace H := H.2 c2
    refine wp_aload_n 48 dX8_judge_47 rfl rfl ?_
    refine wp_getR 12 100 51 dX8_judge_48 rfl fl_X8_43 kd_88 rfl rfl rfl rfl ?_
    refine wp_bipush (24 : Int32) 53 dX8_judge_51 kbipush_24 rfl ?_
    refine wp_iload_n 54 dX8_judge_53 rfl rfl ?_
    refine wp_imul 55 dX8_judge_54 rfl ?_
    refine wp_iload 57 dX8_judge_55 rfl rfl ?_
    refine wp_iadd 58 dX8_judge_57 rfl ?_
    have c4 := H.1; replace H := H.2
    refine wp_iald 59 dX8_judge_58 rfl kd_100 c4 ?_
    refine wp_aload_n 60 dX8_judge_59 rfl rfl ?_
    refine wp_iload_n 61 dX8_judge_60 rfl rfl ?_
    refine wp_iconst (0 : Int32) 62 dX8_judge_61 kiconst_0 rfl ?_
    have c5 := H.1; replace H := H.2
    refine wp_cV (d - 1) 2 [.int v2, .int (0 : Int32)] [.int (h 100 ((((24 : Int32) * v1) + v4)).toNatClampNeg)] 65 dX8_judge_62 rfl (lk_X8_146 rfl) (by omega) kd_88 rfl rfl rfl (Nat.le_of_ble_eq_true rfl) (sp_X8_of (by omega) c5 ?_)
    refine wp_icmp_ne 78 68 dX8_judge_65 rfl rfl ⟨fun c6 => ?_, fun c6 => ?_⟩
    · replace H := H.1 c6
      refine wp_aload_n 79 dX8_judge_78 rfl rfl ?_
      refine wp_iconst (0 : Int32) 80 dX8_judge_79 kiconst_0 rfl ?_
      refine wp_cV (d - 1) 1 [.int (0 : Int32)] [] 83 dX8_judge_80 rfl (lk_X8_203 rfl) (by omega) kd_88 rfl rfl rfl (Nat.le_of_ble_eq_true rfl) (sp_X8_layBack (by omega)  (fun h7 eh7 => ?_))
      replace H := H h7 eh7
      refine wp_iload 85 dX8_judge_83 rfl rfl ?_
      exact wp_reti dX8_judge_85 rfl H
    · replace H := H.2 c6
      refine wp_aload_n 69 dX8_judge_68 rfl rfl ?_
      refine wp_cV (d - 1) 0 [] [] 72 dX8_judge_69 rfl (lk_X8_187 rfl) (by omega) kd_88 rfl rfl rfl (Nat.le_of_ble_eq_true rfl) (H.mono (fun x8 h9 H => ?_))
      refine wp_iinc (1 : Int32) 75 dX8_judge_72 rfl rfl kiconst_1 (Nat.le_of_ble_eq_true rfl) rfl ?_
      refine wp_goto 36 dX8_judge_75 rfl ?_
      exact H

/-- the first m numbers are the ship's cells ahead, the next isn't (or there is none) -/
def kJg (X : Nat → Int32) (v : kM) (p N m : Nat) : Prop := m ≤ N ∧ (∀ j, j < m → X j = nI (kSh v p j).1) ∧ (m = N ∨ m < N ∧ ¬ X m = nI (kSh v p m).1)
theorem lp_judge (hd : 7 ≤ d) {a : Int32} {s N p : Nat} {g : Nat → Int32} {n H f w : Nat} (hS : kSRn (kVw h 1) g n H f w) (hp : p < n) (hH : H ≤ 9999) (hs : s < 4) (kq : kSht (79 + 2 * s)) (hN : N ≤ 24) (e2 : h (79 + 2 * s) 2 = nI N) (kk : ∀ h1 m, kS1 1 h h1 → kJg (h (80 + 2 * s)) (kVw h 1) p N m → Q (nI m) h1) : ∀ (m i : Nat) (h1 : kM), i + m = N → kS1 1 h h1 → (∀ j, j < i → h (80 + 2 * s) j = nI (kSh (kVw h 1) p j).1) → at_X7_judge_56 G d Q a (nI p) (79 + 2 * s) (kPl (kSh (kVw h 1) p i)) (nI i) h1 := by
  intro m
  induction m with
  | zero =>
    intro i h1 hi q al
    have hi2 : i = N := by omega
    subst hi2
    have x2 : h1 (79 + 2 * s) 2 = nI i := by rw [q _ (by omega) (by omega)]; exact e2
    refine sg_X7_judge_56 hd kq ⟨fun _ => ?_, fun z => absurd (by rw [x2]; exact nI_le (Nat.le_refl _) (by omega)) z⟩
    rw [x2]
    exact kk h1 i q ⟨Nat.le_refl _, al, Or.inl rfl⟩
  | succ m ih =>
    intro i h1 hi q al
    have x2 : h1 (79 + 2 * s) 2 = nI N := by rw [q _ (by omega) (by omega)]; exact e2
    have l := kSh_pl hS hp (i := i) (by omega)
    refine sg_X7_judge_56 hd kq ⟨fun z => absurd z (by rw [x2]; exact ltn (nI_lt (by omega) (by omega))), fun _ => ⟨vp_in_nI (by omega) (by decide), ?_⟩⟩
    rw [nI_clamp (by omega), show 79 + 2 * s + 1 = 80 + 2 * s by omega, q (80 + 2 * s) (by omega) (by omega), kPl_c l.2.1 l.2.2]
    refine ⟨fun z => ?_, fun z => kk h1 i q ⟨by omega, al, Or.inr ⟨by omega, z⟩⟩⟩
    refine kBehind (d := d - 1) (by omega) hS hp (by omega) q (fun h2 q2 => ?_)
    rw [nI_1]
    refine ih (i + 1) h2 (by omega) q2 (fun j hj => ?_)
    by_cases e : j = i
    · subst e
      exact z
    · exact al j (by omega)
theorem lp_mjudge (hd : 8 ≤ d) {v : kM} {g : Nat → Int32} {n H f w N m p s : Nat} {z : Int32} (hp : p < n) (hn : n ≤ 5) (hN : N ≤ 24) (hH : H ≤ 9999) (hs : s < 4) (e99 : h 99 s = nI N) (J : kJg (fun j => h 100 (24 * s + j)) v p N m) (kk : ∀ h1, kAh v g n H f w m h h1 → ∀ h2, h2 = kCp h1 92 89 0 0 147 → Q (nI m) h2) : ∀ (k i : Nat) (h1 : kM), i + k = m → kAh v g n H f w i h h1 → at_X8_judge_36 G d Q (nI s) (nI p) z (nI i) h1 := by
  obtain ⟨hm, al, en⟩ := J
  have hcl : (nI s).toNatClampNeg = s := nI_clamp (by omega)
  have hin : vp_in (nI s) 4 := vp_in_nI hs (by decide)
  have o0 : okO (nI p) 0 := okO_n (w := 0) (by omega) (by decide)
  intro k
  induction k with
  | zero =>
    intro i h1 hi a
    have hi2 : i = m := by omega
    subst hi2
    have x99 : h1 99 (nI s).toNatClampNeg = nI N := by rw [a.1 99 (by decide) (by decide) (by decide), hcl]; exact e99
    refine sg_X8_judge_36 hd ⟨hin, ⟨fun _ => kk h1 a, fun y => ?_⟩⟩
    rw [x99] at y
    rcases en with e | ⟨e1, e2⟩
    · exact absurd (by rw [e]; exact nI_le (Nat.le_refl _) (by omega)) y
    · rw [ix24, nI_clamp (by omega), a.1 100 (by decide) (by decide) (by decide), mOf_0 (by omega), (a.ship hp).1]
      exact ⟨vp_in_nI (by omega) (by decide), o0, ⟨fun _ => kk h1 a, fun u => absurd u e2⟩⟩
  | succ k ih =>
    intro i h1 hi a
    have x99 : h1 99 (nI s).toNatClampNeg = nI N := by rw [a.1 99 (by decide) (by decide) (by decide), hcl]; exact e99
    refine sg_X8_judge_36 hd ⟨hin, ⟨fun y => absurd y (by rw [x99]; exact ltn (nI_lt (by omega) (by omega))), fun _ => ?_⟩⟩
    rw [ix24, nI_clamp (by omega), a.1 100 (by decide) (by decide) (by decide), mOf_0 (by omega), (a.ship hp).1]
    refine ⟨vp_in_nI (by omega) (by decide), o0, ⟨fun y => absurd (al i (by omega)) y, fun _ => ?_⟩⟩
    rw [nI_1]
    exact a.step (by omega) (by omega) (fun h2 a2 => ih (i + 1) h2 (by omega) a2)
theorem st_judge (hd : 8 ≤ d) (hR : kRel h) (a1 a2 : Int32) : kStp G d m_X7_judge m_X8_judge [.int a1, .int a2] h := by
  obtain ⟨n, H, f, w, hS, hH⟩ := hR.n
  obtain ⟨hn, n1, n2⟩ := hS.1
  have n1 : h 1 12 = nI n := n1
  by_cases hv : 0 ≤ a2 ∧ a2 < nI n
  · by_cases hc : 0 ≤ a1 ∧ a1 < 4
    · obtain ⟨s, hs, rfl⟩ := iI (n := 4) (by decide) hc.1 hc.2
      obtain ⟨p, hp, rfl⟩ := iI (n := n) (by omega) hv.1 hv.2
      have hcl : (nI s).toNatClampNeg = s := nI_clamp (by omega)
      have hpl : (nI p).toNatClampNeg = p := nI_clamp (by omega)
      have hin : vp_in (nI s) 4 := vp_in_nI hs (by decide)
      have hr := hR.2.2.2.2.2 s hs
      obtain ⟨⟨N, hN, r2, r3⟩, r4, r5, r6⟩ := hR.2.2.2.2.2 s hs
      refine cg_X7_judge (by omega) ⟨fun q => absurd hc (kb_0.mp q), fun _ => ⟨fun _ => ⟨hin, fun q6 e6 k6 => ?_⟩, fun q => absurd (by rw [n1]; exact hv) (kb_0.mp q)⟩⟩
      rw [hcl] at e6
      subst e6
      by_cases hz : h 98 s = 0
      · refine ⟨fun z => absurd (r4.trans hz) (kb_n0.mp z), fun _ => ⟨kin7 (n := 2) (by decide), fun h1 e1 => ?_⟩⟩
        have o98 : h1 98 = h 98 := by rw [e1, kErr_ne (by decide)]
        have o89 : h1 89 = h 89 := by rw [e1, kErr_ne (by decide)]
        refine cg_X8_judge hd ⟨fun q => absurd (by rw [o89, n2]; exact (iM (by omega)).mpr hv) (kb_0.mp q), fun _ => ?_⟩
        rw [o98, mLacks_n hs, if_pos hz]
        exact ⟨fun z => absurd z (by decide), fun _ => ⟨kin7 (n := 2) (by decide), kErrs hR h1 e1⟩⟩
      · refine ⟨fun _ => ⟨vp_in_nI (by omega) (by decide), ?_⟩, fun z => absurd (by rw [r4]; exact hz) (kb_0.mp z)⟩
        have l := kSh_pl hS hp (i := 0) (by omega)
        have l1 : h 4 p = kPl (kSh (kVw h 1) p 0) := l.1
        rw [hpl, l1]
        refine lp_judge (by omega) hS hp hH hs k6 hN r2 (fun h1 m q J => ?_) N 0 h (by omega) (fun _ _ _ => rfl) (fun j hj => absurd hj (Nat.not_lt_zero j))
        have o89 : h1 89 = h 89 := q 89 (by decide) (by decide)
        refine cg_X8_judge hd ⟨fun q => absurd (by rw [o89, n2]; exact (iM (by omega)).mpr hv) (kb_0.mp q), fun _ => ?_⟩
        rw [q 98 (by decide) (by decide), mLacks_n hs, if_neg hz]
        refine ⟨fun _ h2 e2 => ?_, fun z => absurd (by decide) z⟩
        have g2 : h2 89 = h 89 := by rw [e2, kCp_ne (by decide), o89]
        have e100 : h2 100 = h 100 := by rw [e2, kCp_ne (by decide), q 100 (by decide) (by decide)]
        have hi9 : ∀ j, j ≤ N → (kSh (kVw h 1) p j).1 < 64 := fun j hj => (kSh_pl hS hp (i := j) (by omega)).2.1
        have J2 : kJg (fun j => h2 100 (24 * s + j)) (kVw h 1) p N m := by
          obtain ⟨c1, c2, c3⟩ := J
          refine ⟨c1, fun j hj => ?_, ?_⟩
          · show h2 100 (24 * s + j) = _
            rw [e100]
            exact (hr.cell hz (by omega) (hi9 j (by omega))).mp (c2 j hj)
          · rcases c3 with e | ⟨e1, e3⟩
            · exact Or.inl e
            · refine Or.inr ⟨e1, fun e => e3 ?_⟩
              have e5 : h2 100 (24 * s + m) = nI (kSh (kVw h 1) p m).1 := e
              rw [e100] at e5
              exact (hr.cell hz (by omega) (hi9 m (by omega))).mpr e5
        refine lp_mjudge (v := kVw h 1) (g := h 89) (n := n) (H := H) (f := f) (w := w) hd hp hn hN hH hs (by rw [e2, kCp_ne (by decide), q 99 (by decide) (by decide)]; exact r3) J2 (fun h3 a3 h4 e4 => ⟨rfl, ?_⟩) m 0 h2 (by omega) (kAh.start g2 hS)
        obtain ⟨b1, b2⟩ := a3.back (fun j hj => by rw [e2, kCp_eq, cpy0, if_pos hj, o89]) e4
        refine hR.scr (fun a ha => ?_)
        unfold kScr at ha
        by_cases e : a = 89
        · subst e
          exact b1
        · rw [b2 a e (by omega) (by omega), e2, kCp_ne (by omega), q a (by omega) (by omega)]
    · refine cg_X7_judge (by omega) ⟨fun _ => ⟨kin7 (n := 1) (by decide), fun h1 e1 => ?_⟩, fun q => absurd (kb_n0.mp q) hc⟩
      have o89 : h1 89 = h 89 := by rw [e1, kErr_ne (by decide)]
      refine cg_X8_judge hd ⟨fun q => absurd (by rw [o89, n2]; exact (iM (by omega)).mpr hv) (kb_0.mp q), fun _ => ?_⟩
      rw [mLacks_no hc]
      exact ⟨fun z => absurd z (by decide), fun _ => ⟨kin7 (n := 1) (by decide), kErrs hR h1 e1⟩⟩
  · have mo : ∀ h1, h1 = kErr h 87 1 → Cal G d m_X8_judge [.ref 88, .int a1, .int a2] h1 (fun y h2 => -1000000000 - 1 = y ∧ kRel h2) := fun h1 e1 => by
      have o89 : h1 89 = h 89 := by rw [e1, kErr_ne (by decide)]
      exact cg_X8_judge hd ⟨fun _ => ⟨kin7 (n := 1) (by decide), kErrs hR (x := -1000000000 - 1) h1 e1⟩, fun q => absurd ((iM (by omega)).mp (by have := kb_n0.mp q; rw [o89, n2] at this; exact this)) hv⟩
    have g := And.intro (kin7 (n := 1) (by decide)) mo
    exact cg_X7_judge (by omega) ⟨fun _ => g, fun _ => ⟨fun q => absurd (by have := kb_n0.mp q; rw [n1] at this; exact this) hv, fun _ => g⟩⟩
theorem sg_X7_move_0 {G : kG} {d : Nat} {Q : Int32 → kM → Prop}  {a1 : Int32} {a2 : Int32} {a3 : Int32} {a4 : Int32} {a5 : Int32} {h : kM} (hd : 3 ≤ d)  (H :
    (((kb (0 ≤ a1 ∧ a1 < (4 : Int32))) = 0 →
      (vp_in (1 : Int32) 7) ∧
      ∀ h3 : kM, h3 = kErr h 87 (1 : Int32) →
      Q (-1000000000 - (1 : Int32)) h3
    ) ∧ (¬ ((kb (0 ≤ a1 ∧ a1 < (4 : Int32))) = 0) →
      ((¬ (kb (0 ≤ a3 ∧ a3 < (4 : Int32))) = 0 →
        (vp_in a1 4) ∧
        ∀ q6 : Nat, q6 = 79 + 2 * (a1).toNatClampNeg → kSht q6 →
        (vp_in a3 4) ∧
        ∀ q8 : Nat, q8 = 79 + 2 * (a3).toNatClampNeg → kSht q8 →
        (((kb (¬ h q6 1 = 0)) = 0 →
          (vp_in (2 : Int32) 7) ∧
          ∀ h11 : kM, h11 = kErr h 87 (2 : Int32) →
          Q (-1000000000 - (2 : Int32)) h11
        ) ∧ (¬ ((kb (¬ h q6 1 = 0)) = 0) →
          ((¬ (kb (¬ h q8 1 = 0)) = 0 →
            (((h q6 1) = (h q8 1) →
              (((kb (kHolds (h q6 2) a2 a5)) = 0 →
                (vp_in (1 : Int32) 7) ∧
                ∀ h16 : kM, h16 = kErr h 87 (1 : Int32) →
                Q (-1000000000 - (1 : Int32)) h16
              ) ∧ (¬ ((kb (kHolds (h q6 2) a2 a5)) = 0) →
                ((¬ (kb (kHolds (h q8 2) a4 a5)) = 0 →
                  (¬ a2 < 0 ∧ ¬ a4 < 0 ∧ ¬ a5 < 0 ∧ (a2).toNatClampNeg + (a5).toNatClampNeg ≤ 24 ∧ (a4).toNatClampNeg + (a5).toNatClampNeg ≤ 24) ∧
                  ∀ h19 : kM, h19 = kCp h (q6 + 1) (q8 + 1) (a2).toNatClampNeg (a4).toNatClampNeg (a5).toNatClampNeg →
                  Q a5 h19
                ) ∧ ((kb (kHolds (h q8 2) a4 a5)) = 0 →
                  (vp_in (1 : Int32) 7) ∧
                  ∀ h21 : kM, h21 = kErr h 87 (1 : Int32) →
                  Q (-1000000000 - (1 : Int32)) h21
                ))
              ))
            ) ∧ (¬ ((h q6 1) = (h q8 1)) →
              (vp_in (5 : Int32) 7) ∧
              ∀ h23 : kM, h23 = kErr h 87 (5 : Int32) →
              Q (-1000000000 - (5 : Int32)) h23
            ))
          ) ∧ ((kb (¬ h q8 1 = 0)) = 0 →
            (vp_in (2 : Int32) 7) ∧
            ∀ h25 : kM, h25 = kErr h 87 (2 : Int32) →
            Q (-1000000000 - (2 : Int32)) h25
          ))
        ))
      ) ∧ ((kb (0 ≤ a3 ∧ a3 < (4 : Int32))) = 0 →
        (vp_in (1 : Int32) 7) ∧
        ∀ h27 : kM, h27 = kErr h 87 (1 : Int32) →
        Q (-1000000000 - (1 : Int32)) h27
      ))
    ))) : Wp G d m_X7_move (kEo G d m_X7_move Q) 0 [.ref 0, .int a1, .int a2, .int a3, .int a4, .int a5, .null, .null] [] h := by
  refine wp_iload_n 1 dX7_move_0 rfl rfl ?_
  refine wp_iconst (4 : Int32) 2 dX7_move_1 kiconst_4 rfl ?_
  refine wp_cS (d - 1) 2 [.int a1, .int (4 : Int32)] [] 5 dX7_move_2 rfl (lk_X7_58 rfl) (by omega) rfl rfl (Nat.le_of_ble_eq_true rfl) (sp_X7_within (by omega)  ?_)
  refine wp_if_eq 16 8 dX7_move_5 rfl rfl ⟨fun c1 => ?_, fun c1 => ?_⟩
  · replace H := H.1 c1
    refine wp_aload_n 17 dX7_move_16 rfl rfl ?_
    refine wp_iconst (1 : Int32) 18 dX7_move_17 kiconst_1 rfl ?_
    have c2 := H.1; replace H := H.2
    refine wp_cV (d - 1) 1 [.int (1 : Int32)] [] 21 dX7_move_18 rfl (lk_X7_62 rfl) (by omega) kd_0 rfl rfl rfl (Nat.le_of_ble_eq_true rfl) (sp_X7_error (by omega) c2 (fun h3 eh3 => ?_))
    replace H := H h3 eh3
    exact wp_reti dX7_move_21 rfl H
  · replace H := H.2 c1
    refine wp_iload_n 9 dX7_move_8 rfl rfl ?_
    refine wp_iconst (4 : Int32) 10 dX7_move_9 kiconst_4 rfl ?_
    refine wp_cS (d - 1) 2 [.int a3, .int (4 : Int32)] [] 13 dX7_move_10 rfl (lk_X7_58 rfl) (by omega) rfl rfl (Nat.le_of_ble_eq_true rfl) (sp_X7_within (by omega)  ?_)
    refine wp_if_ne 22 16 dX7_move_13 rfl rfl ⟨fun c4 => ?_, fun c4 => ?_⟩
    · replace H := H.1 c4
      refine wp_aload_n 23 dX7_move_22 rfl rfl ?_
      refine wp_getR 78 78 26 dX7_move_23 rfl fl_X7_49 kd_0 rfl rfl rfl rfl ?_
      refine wp_iload_n 27 dX7_move_26 rfl rfl ?_
      have c5 := H.1; replace H := H.2
      refine wp_sheet 28 dX7_move_27 rfl c5 (fun q6 eq6 k_q6 => ?_)
      replace H := H q6 eq6 k_q6
      refine wp_astore 30 dX7_move_28 rfl (Nat.le_of_ble_eq_true rfl) rfl ?_
      refine wp_aload_n 31 dX7_move_30 rfl rfl ?_
      refine wp_getR 78 78 34 dX7_move_31 rfl fl_X7_49 kd_0 rfl rfl rfl rfl ?_
      refine wp_iload_n 35 dX7_move_34 rfl rfl ?_
      have c7 := H.1; replace H := H.2
      refine wp_sheet 36 dX7_move_35 rfl c7 (fun q8 eq8 k_q8 => ?_)
      replace H := H q8 eq8 k_q8
      refine wp_astore 38 dX7_move_36 rfl (Nat.le_of_ble_eq_true rfl) rfl ?_
      refine wp_aload 40 dX7_move_38 rfl rfl ?_
      refine wp_cV (d - 1) 0 [] [] 43 dX7_move_40 rfl (lk_X7_221 rfl) (by omega) (kSht_0 k_q6) rfl rfl rfl (Nat.le_of_ble_eq_true rfl) (sp_X4_isThere (by omega) k_q6 ?_)
      refine wp_if_eq 54 46 dX7_move_43 rfl rfl ⟨fun c9 => ?_, fun c9 => ?_⟩
      · replace H := H.1 c9
        refine wp_aload_n 55 dX7_move_54 rfl rfl ?_
        refine wp_iconst (2 : Int32) 56 dX7_move_55 kiconst_2 rfl ?_
        have c10 := H.1; replace H := H.2
        refine wp_cV (d - 1) 1 [.int (2 : Int32)] [] 59 dX7_move_56 rfl (lk_X7_62 rfl) (by omega) kd_0 rfl rfl rfl (Nat.le_of_ble_eq_true rfl) (sp_X7_error (by omega) c10 (fun h11 eh11 => ?_))
        replace H := H h11 eh11
        exact wp_reti dX7_move_59 rfl H
      · replace H := H.2 c9
        refine wp_aload 48 dX7_move_46 rfl rfl ?_
        refine wp_cV (d - 1) 0 [] [] 51 dX7_move_48 rfl (lk_X7_221 rfl) (by omega) (kSht_0 k_q8) rfl rfl rfl (Nat.le_of_ble_eq_true rfl) (sp_X4_isThere (by omega) k_q8 ?_)
        refine wp_if_ne 60 54 dX7_move_51 rfl rfl ⟨fun c12 => ?_, fun c12 => ?_⟩
        · replace H := H.1 c12
          refine wp_aload 62 dX7_move_60 rfl rfl ?_
          refine wp_getI 65 dX7_move_62 rfl fl_X7_260 (kSht_0 k_q6) rfl ?_
          refine wp_aload 67 dX7_move_65 rfl rfl ?_
          refine wp_getI 70 dX7_move_67 rfl fl_X7_260 (kSht_0 k_q8) rfl ?_
          refine wp_icmp_eq 79 73 dX7_move_70 rfl rfl ⟨fun c13 => ?_, fun c13 => ?_⟩
          · replace H := H.1 c13
            refine wp_aload 81 dX7_move_79 rfl rfl ?_
            refine wp_iload_n 82 dX7_move_81 rfl rfl ?_
            refine wp_iload 84 dX7_move_82 rfl rfl ?_
            refine wp_cV (d - 1) 2 [.int a2, .int a5] [] 87 dX7_move_84 rfl (lk_X7_263 rfl) (by omega) (kSht_0 k_q6) rfl rfl rfl (Nat.le_of_ble_eq_true rfl) (sp_X4_holds (by omega) k_q6 ?_)
            refine wp_if_eq 102 90 dX7_move_87 rfl rfl ⟨fun c14 => ?_, fun c14 => ?_⟩
            · replace H := H.1 c14
              refine wp_aload_n 103 dX7_move_102 rfl rfl ?_
              refine wp_iconst (1 : Int32) 104 dX7_move_103 kiconst_1 rfl ?_
              have c15 := H.1; replace H := H.2
              refine wp_cV (d - 1) 1 [.int (1 : Int32)] [] 107 dX7_move_104 rfl (lk_X7_62 rfl) (by omega) kd_0 rfl rfl rfl (Nat.le_of_ble_eq_true rfl) (sp_X7_error (by omega) c15 (fun h16 eh16 => ?_))
              replace H := H h16 eh16
              exact wp_reti dX7_move_107 rfl H
            · replace H := H.2 c14
              refine wp_aload 92 dX7_move_90 rfl rfl ?_
              refine wp_iload 94 dX7_move_92 rfl rfl ?_
              refine wp_iload 96 dX7_move_94 rfl rfl ?_
              refine wp_cV (d - 1) 2 [.int a4, .int a5] [] 99 dX7_move_96 rfl (lk_X7_263 rfl) (by omega) (kSht_0 k_q8) rfl rfl rfl (Nat.le_of_ble_eq_true rfl) (sp_X4_holds (by omega) k_q8 ?_)
              refine wp_if_ne 108 102 dX7_move_99 rfl rfl ⟨fun c17 => ?_, fun c17 => ?_⟩
              · replace H := H.1 c17
                refine wp_aload 110 dX7_move_108 rfl rfl ?_
                refine wp_getR 1 (q6 + 1) 113 dX7_move_110 rfl fl_X7_225 (kSht_0 k_q6) rfl rfl rfl rfl ?_
                refine wp_iload_n 114 dX7_move_113 rfl rfl ?_
                refine wp_aload 116 dX7_move_114 rfl rfl ?_
                refine wp_getR 1 (q8 + 1) 119 dX7_move_116 rfl fl_X7_225 (kSht_0 k_q8) rfl rfl rfl rfl ?_
                refine wp_iload 121 dX7_move_119 rfl rfl ?_
                refine wp_iload 123 dX7_move_121 rfl rfl ?_
                have c18 := H.1; replace H := H.2
                refine wp_copy 126 dX7_move_123 rfl ac_X7_266 (by omega) (Nat.le_of_ble_eq_true rfl) (kSht_1 k_q6) (kSht_1 k_q8) c18.1 c18.2.1 c18.2.2.1 c18.2.2.2.1 c18.2.2.2.2 ?_
                refine wp_nm (fun h19 eh19 => ?_)
                replace H := H h19 eh19
                refine wp_iload 128 dX7_move_126 rfl rfl ?_
                exact wp_reti dX7_move_128 rfl H
              · replace H := H.2 c17
                refine wp_aload_n 103 dX7_move_102 rfl rfl ?_
                refine wp_iconst (1 : Int32) 104 dX7_move_103 kiconst_1 rfl ?_
                have c20 := H.1; replace H := H.2
                refine wp_cV (d - 1) 1 [.int (1 : Int32)] [] 107 dX7_move_104 rfl (lk_X7_62 rfl) (by omega) kd_0 rfl rfl rfl (Nat.le_of_ble_eq_true rfl) (sp_X7_error (by omega) c20 (fun h21 eh21 => ?_))
                replace H := H h21 eh21
                exact wp_reti dX7_move_107 rfl H
          · replace H := H.2 c13
            refine wp_aload_n 74 dX7_move_73 rfl rfl ?_
            refine wp_iconst (5 : Int32) 75 dX7_move_74 kiconst_5 rfl ?_
            have c22 := H.1; replace H := H.2
            refine wp_cV (d - 1) 1 [.int (5 : Int32)] [] 78 dX7_move_75 rfl (lk_X7_62 rfl) (by omega) kd_0 rfl rfl rfl (Nat.le_of_ble_eq_true rfl) (sp_X7_error (by omega) c22 (fun h23 eh23 => ?_))
            replace H := H h23 eh23
            exact wp_reti dX7_move_78 rfl H
        · replace H := H.2 c12
          refine wp_aload_n 55 dX7_move_54 rfl rfl ?_
          refine wp_iconst (2 : Int32) 56 dX7_move_55 kiconst_2 rfl ?_
          have c24 := H.1; replace H := H.2
          refine wp_cV (d - 1) 1 [.int (2 : Int32)] [] 59 dX7_move_56 rfl (lk_X7_62 rfl) (by omega) kd_0 rfl rfl rfl (Nat.le_of_ble_eq_true rfl) (sp_X7_error (by omega) c24 (fun h25 eh25 => ?_))
          replace H := H h25 eh25
          exact wp_reti dX7_move_59 rfl H
    · replace H := H.2 c4
      refine wp_aload_n 17 dX7_move_16 rfl rfl ?_
      refine wp_iconst (1 : Int32) 18 dX7_move_17 kiconst_1 rfl ?_
      have c26 := H.1; replace H := H.2
      refine wp_cV (d - 1) 1 [.int (1 : Int32)] [] 21 dX7_move_18 rfl (lk_X7_62 rfl) (by omega) kd_0 rfl rfl rfl (Nat.le_of_ble_eq_true rfl) (sp_X7_error (by omega) c26 (fun h27 eh27 => ?_))
      replace H := H h27 eh27
      exact wp_reti dX7_move_21 rfl H

theorem cg_X7_move {G : kG} {d : Nat} {Q : Int32 → kM → Prop}  {a1 : Int32} {a2 : Int32} {a3 : Int32} {a4 : Int32} {a5 : Int32} {h : kM} (hd : 3 ≤ d)  (H :
    (((kb (0 ≤ a1 ∧ a1 < (4 : Int32))) = 0 →
      (vp_in (1 : Int32) 7) ∧
      ∀ h3 : kM, h3 = kErr h 87 (1 : Int32) →
      Q (-1000000000 - (1 : Int32)) h3
    ) ∧ (¬ ((kb (0 ≤ a1 ∧ a1 < (4 : Int32))) = 0) →
      ((¬ (kb (0 ≤ a3 ∧ a3 < (4 : Int32))) = 0 →
        (vp_in a1 4) ∧
        ∀ q6 : Nat, q6 = 79 + 2 * (a1).toNatClampNeg → kSht q6 →
        (vp_in a3 4) ∧
        ∀ q8 : Nat, q8 = 79 + 2 * (a3).toNatClampNeg → kSht q8 →
        (((kb (¬ h q6 1 = 0)) = 0 →
          (vp_in (2 : Int32) 7) ∧
          ∀ h11 : kM, h11 = kErr h 87 (2 : Int32) →
          Q (-1000000000 - (2 : Int32)) h11
        ) ∧ (¬ ((kb (¬ h q6 1 = 0)) = 0) →
          ((¬ (kb (¬ h q8 1 = 0)) = 0 →
            (((h q6 1) = (h q8 1) →
              (((kb (kHolds (h q6 2) a2 a5)) = 0 →
                (vp_in (1 : Int32) 7) ∧
                ∀ h16 : kM, h16 = kErr h 87 (1 : Int32) →
                Q (-1000000000 - (1 : Int32)) h16
              ) ∧ (¬ ((kb (kHolds (h q6 2) a2 a5)) = 0) →
                ((¬ (kb (kHolds (h q8 2) a4 a5)) = 0 →
                  (¬ a2 < 0 ∧ ¬ a4 < 0 ∧ ¬ a5 < 0 ∧ (a2).toNatClampNeg + (a5).toNatClampNeg ≤ 24 ∧ (a4).toNatClampNeg + (a5).toNatClampNeg ≤ 24) ∧
                  ∀ h19 : kM, h19 = kCp h (q6 + 1) (q8 + 1) (a2).toNatClampNeg (a4).toNatClampNeg (a5).toNatClampNeg →
                  Q a5 h19
                ) ∧ ((kb (kHolds (h q8 2) a4 a5)) = 0 →
                  (vp_in (1 : Int32) 7) ∧
                  ∀ h21 : kM, h21 = kErr h 87 (1 : Int32) →
                  Q (-1000000000 - (1 : Int32)) h21
                ))
              ))
            ) ∧ (¬ ((h q6 1) = (h q8 1)) →
              (vp_in (5 : Int32) 7) ∧
              ∀ h23 : kM, h23 = kErr h 87 (5 : Int32) →
              Q (-1000000000 - (5 : Int32)) h23
            ))
          ) ∧ ((kb (¬ h q8 1 = 0)) = 0 →
            (vp_in (2 : Int32) 7) ∧
            ∀ h25 : kM, h25 = kErr h 87 (2 : Int32) →
            Q (-1000000000 - (2 : Int32)) h25
          ))
        ))
      ) ∧ ((kb (0 ≤ a3 ∧ a3 < (4 : Int32))) = 0 →
        (vp_in (1 : Int32) 7) ∧
        ∀ h27 : kM, h27 = kErr h 87 (1 : Int32) →
        Q (-1000000000 - (1 : Int32)) h27
      ))
    ))) : Cal G d m_X7_move [.ref 0, .int a1, .int a2, .int a3, .int a4, .int a5] h Q :=
  Cal.of [.ref 0, .int a1, .int a2, .int a3, .int a4, .int a5, .null, .null] (by decide +kernel) (Nat.le_of_ble_eq_true rfl) rfl (sg_X7_move_0 hd  H)

def at_X8_move_115 (G : kG) (d : Nat) (Q : Int32 → kM → Prop)  (v1 : Int32) (v2 : Int32) (v3 : Int32) (v4 : Int32) (v5 : Int32) (v6 : Int32) (h : kM) : Prop := Wp G d m_X8_move (kEo G d m_X8_move Q) 115 [.ref 88, .int v1, .int v2, .int v3, .int v4, .int v5, .int v6] [] h
def at_X8_move_152 (G : kG) (d : Nat) (Q : Int32 → kM → Prop)  (v1 : Int32) (v2 : Int32) (v3 : Int32) (v4 : Int32) (v5 : Int32) (v6 : Int32) (h : kM) : Prop := Wp G d m_X8_move (kEo G d m_X8_move Q) 152 [.ref 88, .int v1, .int v2, .int v3, .int v4, .int v5, .int v6] [] h
theorem sg_X8_move_0 {G : kG} {d : Nat} {Q : Int32 → kM → Prop}  {a1 : Int32} {a2 : Int32} {a3 : Int32} {a4 : Int32} {a5 : Int32} {h : kM} (hd : 3 ≤ d)  (H :
    (((kb (0 ≤ a1 ∧ a1 ≤ 3)) = 0 →
      (vp_in (1 : Int32) 7) ∧
      ∀ h3 : kM, h3 = kErr h 93 (1 : Int32) →
      Q (-1000000000 - (1 : Int32)) h3
    ) ∧ (¬ ((kb (0 ≤ a1 ∧ a1 ≤ 3)) = 0) →
      ((¬ (kb (0 ≤ a3 ∧ a3 ≤ 3)) = 0 →
        (vp_in a1 4) ∧
        (((h 98 (a1).toNatClampNeg) = 0 →
          (vp_in (2 : Int32) 7) ∧
          ∀ h8 : kM, h8 = kErr h 93 (2 : Int32) →
          Q (-1000000000 - (2 : Int32)) h8
        ) ∧ (¬ ((h 98 (a1).toNatClampNeg) = 0) →
          (vp_in a3 4) ∧
          ((¬ (h 98 (a3).toNatClampNeg) = 0 →
            (vp_in a1 4) ∧
            (vp_in a3 4) ∧
            (((h 98 (a1).toNatClampNeg) = (h 98 (a3).toNatClampNeg) →
              ((a5 < 0 →
                (vp_in (1 : Int32) 7) ∧
                ∀ h16 : kM, h16 = kErr h 93 (1 : Int32) →
                Q (-1000000000 - (1 : Int32)) h16
              ) ∧ (¬ (a5 < 0) →
                ((a2 < 0 →
                  (vp_in (1 : Int32) 7) ∧
                  ∀ h19 : kM, h19 = kErr h 93 (1 : Int32) →
                  Q (-1000000000 - (1 : Int32)) h19
                ) ∧ (¬ (a2 < 0) →
                  ((a4 < 0 →
                    (vp_in (1 : Int32) 7) ∧
                    ∀ h22 : kM, h22 = kErr h 93 (1 : Int32) →
                    Q (-1000000000 - (1 : Int32)) h22
                  ) ∧ (¬ (a4 < 0) →
                    (vp_in a1 4) ∧
                    ((((h 99 (a1).toNatClampNeg) - a5) < a2 →
                      (vp_in (1 : Int32) 7) ∧
                      ∀ h26 : kM, h26 = kErr h 93 (1 : Int32) →
                      Q (-1000000000 - (1 : Int32)) h26
                    ) ∧ (¬ (((h 99 (a1).toNatClampNeg) - a5) < a2) →
                      (vp_in a3 4) ∧
                      ((a4 ≤ ((h 99 (a3).toNatClampNeg) - a5) →
                        at_X8_move_115 G d Q a1 a2 a3 a4 a5 (0 : Int32) h
                      ) ∧ (¬ (a4 ≤ ((h 99 (a3).toNatClampNeg) - a5)) →
                        (vp_in (1 : Int32) 7) ∧
                        ∀ h30 : kM, h30 = kErr h 93 (1 : Int32) →
                        Q (-1000000000 - (1 : Int32)) h30
                      ))
                    ))
                  ))
                ))
              ))
            ) ∧ (¬ ((h 98 (a1).toNatClampNeg) = (h 98 (a3).toNatClampNeg)) →
              (vp_in (5 : Int32) 7) ∧
              ∀ h32 : kM, h32 = kErr h 93 (5 : Int32) →
              Q (-1000000000 - (5 : Int32)) h32
            ))
          ) ∧ ((h 98 (a3).toNatClampNeg) = 0 →
            (vp_in (2 : Int32) 7) ∧
            ∀ h34 : kM, h34 = kErr h 93 (2 : Int32) →
            Q (-1000000000 - (2 : Int32)) h34
          ))
        ))
      ) ∧ ((kb (0 ≤ a3 ∧ a3 ≤ 3)) = 0 →
        (vp_in (1 : Int32) 7) ∧
        ∀ h36 : kM, h36 = kErr h 93 (1 : Int32) →
        Q (-1000000000 - (1 : Int32)) h36
      ))
    ))) : Wp G d m_X8_move (kEo G d m_X8_move Q) 0 [.ref 88, .int a1, .int a2, .int a3, .int a4, .int a5, .null] [] h := by
  refine wp_iload_n 1 dX8_move_0 rfl rfl ?_
  refine wp_cS (d - 1) 1 [.int a1] [] 4 dX8_move_1 rfl (lk_X8_230 rfl) (by omega) rfl rfl (Nat.le_of_ble_eq_true rfl) (sp_X8_isSheet (by omega)  ?_)
  refine wp_if_eq 14 7 dX8_move_4 rfl rfl ⟨fun c1 => ?_, fun c1 => ?_⟩
  · replace H := H.1 c1
    refine wp_aload_n 15 dX8_move_14 rfl rfl ?_
    refine wp_iconst (1 : Int32) 16 dX8_move_15 kiconst_1 rfl ?_
    have c2 := H.1; replace H := H.2
    refine wp_cV (d - 1) 1 [.int (1 : Int32)] [] 19 dX8_move_16 rfl (lk_X8_62 rfl) (by omega) kd_88 rfl rfl rfl (Nat.le_of_ble_eq_true rfl) (sp_X8_error (by omega) c2 (fun h3 eh3 => ?_))
    replace H := H h3 eh3
    exact wp_reti dX8_move_19 rfl H
  · replace H := H.2 c1
    refine wp_iload_n 8 dX8_move_7 rfl rfl ?_
    refine wp_cS (d - 1) 1 [.int a3] [] 11 dX8_move_8 rfl (lk_X8_230 rfl) (by omega) rfl rfl (Nat.le_of_ble_eq_true rfl) (sp_X8_isSheet (by omega)  ?_)
    refine wp_if_ne 20 14 dX8_move_11 rfl rfl ⟨fun c4 => ?_, fun c4 => ?_⟩
    · replace H := H.1 c4
      refine wp_aload_n 21 dX8_move_20 rfl rfl ?_
      refine wp_getR 10 98 24 dX8_move_21 rfl fl_X8_37 kd_88 rfl rfl rfl rfl ?_
      refine wp_iload_n 25 dX8_move_24 rfl rfl ?_
      have c5 := H.1; replace H := H.2
      refine wp_iald 26 dX8_move_25 rfl kd_98 c5 ?_
      refine wp_if_eq 38 29 dX8_move_26 rfl rfl ⟨fun c6 => ?_, fun c6 => ?_⟩
      · replace H := H.1 c6
        refine wp_aload_n 39 dX8_move_38 rfl rfl ?_
        refine wp_iconst (2 : Int32) 40 dX8_move_39 kiconst_2 rfl ?_
        have c7 := H.1; replace H := H.2
        refine wp_cV (d - 1) 1 [.int (2 : Int32)] [] 43 dX8_move_40 rfl (lk_X8_62 rfl) (by omega) kd_88 rfl rfl rfl (Nat.le_of_ble_eq_true rfl) (sp_X8_error (by omega) c7 (fun h8 eh8 => ?_))
        replace H := H h8 eh8
        exact wp_reti dX8_move_43 rfl H
      · replace H := H.2 c6
        refine wp_aload_n 30 dX8_move_29 rfl rfl ?_
        refine wp_getR 10 98 33 dX8_move_30 rfl fl_X8_37 kd_88 rfl rfl rfl rfl ?_
        refine wp_iload_n 34 dX8_move_33 rfl rfl ?_
        have c9 := H.1; replace H := H.2
        refine wp_iald 35 dX8_move_34 rfl kd_98 c9 ?_
        refine wp_if_ne 44 38 dX8_move_35 rfl rfl ⟨fun c10 => ?_, fun c10 => ?_⟩
        · replace H := H.1 c10
          refine wp_aload_n 45 dX8_move_44 rfl rfl ?_
          refine wp_getR 10 98 48 dX8_move_45 rfl fl_X8_37 kd_88 rfl rfl rfl rfl ?_
          refine wp_iload_n 49 dX8_move_48 rfl rfl ?_
          have c11 := H.1; replace H := H.2
          refine wp_iald 50 dX8_move_49 rfl kd_98 c11 ?_
          refine wp_aload_n 51 dX8_move_50 rfl rfl ?_
          refine wp_getR 10 98 54 dX8_move_51 rfl fl_X8_37 kd_88 rfl rfl rfl rfl ?_
          refine wp_iload_n 55 dX8_move_54 rfl rfl ?_
          have c12 := H.1; replace H := H.2
          refine wp_iald 56 dX8_move_55 rfl kd_98 c12 ?_
          refine wp_icmp_eq 65 59 dX8_move_56 rfl rfl ⟨fun c13 => ?_, fun c13 => ?_⟩
          · replace H := H.1 c13
            refine wp_iload 67 dX8_move_65 rfl rfl ?_
            refine wp_if_lt 106 70 dX8_move_67 rfl rfl ⟨fun c14 => ?_, fun c14 => ?_⟩
            · replace H := H.1 c14
              refine wp_aload_n 107 dX8_move_106 rfl rfl ?_
              refine wp_iconst (1 : Int32) 108 dX8_move_107 kiconst_1 rfl ?_
              have c15 := H.1; replace H := H.2
              refine wp_cV (d - 1) 1 [.int (1 : Int32)] [] 111 dX8_move_108 rfl (lk_X8_62 rfl) (by omega) kd_88 rfl rfl rfl (Nat.le_of_ble_eq_true rfl) (sp_X8_error (by omega) c15 (fun h16 eh16 => ?_))
              replace H := H h16 eh16
              exact wp_reti dX8_move_111 rfl H
            · replace H := H.2 c14
              refine wp_iload_n 71 dX8_move_70 rfl rfl ?_
              refine wp_if_lt 106 74 dX8_move_71 rfl rfl ⟨fun c17 => ?_, fun c17 => ?_⟩
              · replace H := H.1 c17
                refine wp_aload_n 107 dX8_move_106 rfl rfl ?_
                refine wp_iconst (1 : Int32) 108 dX8_move_107 kiconst_1 rfl ?_
                have c18 := H.1; replace H := H.2
                refine wp_cV (d - 1) 1 [.int (1 : Int32)] [] 111 dX8_move_108 rfl (lk_X8_62 rfl) (by omega) kd_88 rfl rfl rfl (Nat.le_of_ble_eq_true rfl) (sp_X8_error (by omega) c18 (fun h19 eh19 => ?_))
                replace H := H h19 eh19
                exact wp_reti dX8_move_111 rfl H
              · replace H := H.2 c17
                refine wp_iload 76 dX8_move_74 rfl rfl ?_
                refine wp_if_lt 106 79 dX8_move_76 rfl rfl ⟨fun c20 => ?_, fun c20 => ?_⟩
                · replace H := H.1 c20
                  refine wp_aload_n 107 dX8_move_106 rfl rfl ?_
                  refine wp_iconst (1 : Int32) 108 dX8_move_107 kiconst_1 rfl ?_
                  have c21 := H.1; replace H := H.2
                  refine wp_cV (d - 1) 1 [.int (1 : Int32)] [] 111 dX8_move_108 rfl (lk_X8_62 rfl) (by omega) kd_88 rfl rfl rfl (Nat.le_of_ble_eq_true rfl) (sp_X8_error (by omega) c21 (fun h22 eh22 => ?_))
                  replace H := H h22 eh22
                  exact wp_reti dX8_move_111 rfl H
                · replace H := H.2 c20
                  refine wp_iload_n 80 dX8_move_79 rfl rfl ?_
                  refine wp_aload_n 81 dX8_move_80 rfl rfl ?_
                  refine wp_getR 11 99 84 dX8_move_81 rfl fl_X8_40 kd_88 rfl rfl rfl rfl ?_
                  refine wp_iload_n 85 dX8_move_84 rfl rfl ?_
                  have c23 := H.1; replace H := H.2
                  refine wp_iald 86 dX8_move_85 rfl kd_99 c23 ?_
                  refine wp_iload 88 dX8_move_86 rfl rfl ?_
                  refine wp_isub 89 dX8_move_88 rfl ?_
                  refine wp_icmp_gt 106 92 dX8_move_89 rfl rfl ⟨fun c24 => ?_, fun c24 => ?_⟩
                  · replace H := H.1 c24
                    refine wp_aload_n 107 dX8_move_106 rfl rfl ?_
                    refine wp_iconst (1 : Int32) 108 dX8_move_107 kiconst_1 rfl ?_
                    have c25 := H.1; replace H := H.2
                    refine wp_cV (d - 1) 1 [.int (1 : Int32)] [] 111 dX8_move_108 rfl (lk_X8_62 rfl) (by omega) kd_88 rfl rfl rfl (Nat.le_of_ble_eq_true rfl) (sp_X8_error (by omega) c25 (fun h26 eh26 => ?_))
                    replace H := H h26 eh26
                    exact wp_reti dX8_move_111 rfl H
                  · replace H := H.2 c24
                    refine wp_iload 94 dX8_move_92 rfl rfl ?_
                    refine wp_aload_n 95 dX8_move_94 rfl rfl ?_
                    refine wp_getR 11 99 98 dX8_move_95 rfl fl_X8_40 kd_88 rfl rfl rfl rfl ?_
                    refine wp_iload_n 99 dX8_move_98 rfl rfl ?_
                    have c27 := H.1; replace H := H.2
                    refine wp_iald 100 dX8_move_99 rfl kd_99 c27 ?_
                    refine wp_iload 102 dX8_move_100 rfl rfl ?_
                    refine wp_isub 103 dX8_move_102 rfl ?_
                    refine wp_icmp_le 112 106 dX8_move_103 rfl rfl ⟨fun c28 => ?_, fun c28 => ?_⟩
                    · replace H := H.1 c28
                      refine wp_iconst (0 : Int32) 113 dX8_move_112 kiconst_0 rfl ?_
                      refine wp_istore 115 dX8_move_113 rfl (Nat.le_of_ble_eq_true rfl) rfl ?_
                      exact H
                    · replace H := H.2 c28
                      refine wp_aload_n 107 dX8_move_106 rfl rfl ?_
                      refine wp_iconst (1 : Int32) 108 dX8_move_107 kiconst_1 rfl ?_
                      have c29 := H.1; replace H := H.2
                      refine wp_cV (d - 1) 1 [.int (1 : Int32)] [] 111 dX8_move_108 rfl (lk_X8_62 rfl) (by omega) kd_88 rfl rfl rfl (Nat.le_of_ble_eq_true rfl) (sp_X8_error (by omega) c29 (fun h30 eh30 => ?_))
                      replace H := H h30 eh30
                      exact wp_reti dX8_move_111 rfl H
          · replace H := H.2 c13
            refine wp_aload_n 60 dX8_move_59 rfl rfl ?_
            refine wp_iconst (5 : Int32) 61 dX8_move_60 kiconst_5 rfl ?_
            have c31 := H.1; replace H := H.2
            refine wp_cV (d - 1) 1 [.int (5 : Int32)] [] 64 dX8_move_61 rfl (lk_X8_62 rfl) (by omega) kd_88 rfl rfl rfl (Nat.le_of_ble_eq_true rfl) (sp_X8_error (by omega) c31 (fun h32 eh32 => ?_))
            replace H := H h32 eh32
            exact wp_reti dX8_move_64 rfl H
        · replace H := H.2 c10
          refine wp_aload_n 39 dX8_move_38 rfl rfl ?_
          refine wp_iconst (2 : Int32) 40 dX8_move_39 kiconst_2 rfl ?_
          have c33 := H.1; replace H := H.2
          refine wp_cV (d - 1) 1 [.int (2 : Int32)] [] 43 dX8_move_40 rfl (lk_X8_62 rfl) (by omega) kd_88 rfl rfl rfl (Nat.le_of_ble_eq_true rfl) (sp_X8_error (by omega) c33 (fun h34 eh34 => ?_))
          replace H := H h34 eh34
          exact wp_reti dX8_move_43 rfl H
    · replace H := H.2 c4
      refine wp_aload_n 15 dX8_move_14 rfl rfl ?_
      refine wp_iconst (1 : Int32) 16 dX8_move_15 kiconst_1 rfl ?_
      have c35 := H.1; replace H := H.2
      refine wp_cV (d - 1) 1 [.int (1 : Int32)] [] 19 dX8_move_16 rfl (lk_X8_62 rfl) (by omega) kd_88 rfl rfl rfl (Nat.le_of_ble_eq_true rfl) (sp_X8_error (by omega) c35 (fun h36 eh36 => ?_))
      replace H := H h36 eh36
      exact wp_reti dX8_move_19 rfl H

theorem cg_X8_move {G : kG} {d : Nat} {Q : Int32 → kM → Prop}  {a1 : Int32} {a2 : Int32} {a3 : Int32} {a4 : Int32} {a5 : Int32} {h : kM} (hd : 3 ≤ d)  (H :
    (((kb (0 ≤ a1 ∧ a1 ≤ 3)) = 0 →
      (vp_in (1 : Int32) 7) ∧
      ∀ h3 : kM, h3 = kErr h 93 (1 : Int32) →
      Q (-1000000000 - (1 : Int32)) h3
    ) ∧ (¬ ((kb (0 ≤ a1 ∧ a1 ≤ 3)) = 0) →
      ((¬ (kb (0 ≤ a3 ∧ a3 ≤ 3)) = 0 →
        (vp_in a1 4) ∧
        (((h 98 (a1).toNatClampNeg) = 0 →
          (vp_in (2 : Int32) 7) ∧
          ∀ h8 : kM, h8 = kErr h 93 (2 : Int32) →
          Q (-1000000000 - (2 : Int32)) h8
        ) ∧ (¬ ((h 98 (a1).toNatClampNeg) = 0) →
          (vp_in a3 4) ∧
          ((¬ (h 98 (a3).toNatClampNeg) = 0 →
            (vp_in a1 4) ∧
            (vp_in a3 4) ∧
            (((h 98 (a1).toNatClampNeg) = (h 98 (a3).toNatClampNeg) →
              ((a5 < 0 →
                (vp_in (1 : Int32) 7) ∧
                ∀ h16 : kM, h16 = kErr h 93 (1 : Int32) →
                Q (-1000000000 - (1 : Int32)) h16
              ) ∧ (¬ (a5 < 0) →
                ((a2 < 0 →
                  (vp_in (1 : Int32) 7) ∧
                  ∀ h19 : kM, h19 = kErr h 93 (1 : Int32) →
                  Q (-1000000000 - (1 : Int32)) h19
                ) ∧ (¬ (a2 < 0) →
                  ((a4 < 0 →
                    (vp_in (1 : Int32) 7) ∧
                    ∀ h22 : kM, h22 = kErr h 93 (1 : Int32) →
                    Q (-1000000000 - (1 : Int32)) h22
                  ) ∧ (¬ (a4 < 0) →
                    (vp_in a1 4) ∧
                    ((((h 99 (a1).toNatClampNeg) - a5) < a2 →
                      (vp_in (1 : Int32) 7) ∧
                      ∀ h26 : kM, h26 = kErr h 93 (1 : Int32) →
                      Q (-1000000000 - (1 : Int32)) h26
                    ) ∧ (¬ (((h 99 (a1).toNatClampNeg) - a5) < a2) →
                      (vp_in a3 4) ∧
                      ((a4 ≤ ((h 99 (a3).toNatClampNeg) - a5) →
                        at_X8_move_115 G d Q a1 a2 a3 a4 a5 (0 : Int32) h
                      ) ∧ (¬ (a4 ≤ ((h 99 (a3).toNatClampNeg) - a5)) →
                        (vp_in (1 : Int32) 7) ∧
                        ∀ h30 : kM, h30 = kErr h 93 (1 : Int32) →
                        Q (-1000000000 - (1 : Int32)) h30
                      ))
                    ))
                  ))
                ))
              ))
            ) ∧ (¬ ((h 98 (a1).toNatClampNeg) = (h 98 (a3).toNatClampNeg)) →
              (vp_in (5 : Int32) 7) ∧
              ∀ h32 : kM, h32 = kErr h 93 (5 : Int32) →
              Q (-1000000000 - (5 : Int32)) h32
            ))
          ) ∧ ((h 98 (a3).toNatClampNeg) = 0 →
            (vp_in (2 : Int32) 7) ∧
            ∀ h34 : kM, h34 = kErr h 93 (2 : Int32) →
            Q (-1000000000 - (2 : Int32)) h34
          ))
        ))
      ) ∧ ((kb (0 ≤ a3 ∧ a3 ≤ 3)) = 0 →
        (vp_in (1 : Int32) 7) ∧
        ∀ h36 : kM, h36 = kErr h 93 (1 : Int32) →
        Q (-1000000000 - (1 : Int32)) h36
      ))
    ))) : Cal G d m_X8_move [.ref 88, .int a1, .int a2, .int a3, .int a4, .int a5] h Q :=
  Cal.of [.ref 88, .int a1, .int a2, .int a3, .int a4, .int a5, .null] (by decide +kernel) (Nat.le_of_ble_eq_true rfl) rfl (sg_X8_move_0 hd  H)

theorem sg_X8_move_115 {G : kG} {d : Nat} {Q : Int32 → kM → Prop}  {v1 : Int32} {v2 : Int32} {v3 : Int32} {v4 : Int32} {v5 : Int32} {v6 : Int32} {h : kM} (hd : 3 ≤ d)  (H :
    ((v5 ≤ v6 →
      at_X8_move_152 G d Q v1 v2 v3 v4 v5 (0 : Int32) h
    ) ∧ (¬ (v5 ≤ v6) →
      (vp_in ((((24 : Int32) * v1) + v2) + v6) 96) ∧
      (vp_in v6 24) ∧
      ∀ h4 : kM, h4 = kU h 101 (v6).toNatClampNeg (h 100 (((((24 : Int32) * v1) + v2) + v6)).toNatClampNeg) →
      at_X8_move_115 G d Q v1 v2 v3 v4 v5 (v6 + (1 : Int32)) h4
    ))) : at_X8_move_115 G d Q v1 v2 v3 v4 v5 v6 h := by
  show Wp G d m_X8_move (kEo G d m_X8_move Q) 115 [.ref 88, .int v1, .int v2, .int v3, .int v4, .int v5, .int v6] [] h
  refine wp_iload 117 dX8_move_115 rfl rfl ?_
  refine wp_iload 119 dX8_move_117 rfl rfl ?_
  refine wp_icmp_ge 149 122 dX8_move_119 rfl rfl ⟨fun c1 => ?_, fun c1 => ?_⟩
  · replace H := H.1 c1
    refine wp_iconst (0 : Int32) 150 dX8_move_149 kiconst_0 rfl ?_
    refine wp_istore 152 dX8_move_150 rfl (Nat.le_of_ble_eq_true rfl) rfl ?_
    exact H
  · replace H := H.2 c1
    refine wp_aload_n 123 dX8_move_122 rfl rfl ?_
    refine wp_getR 13 101 126 dX8_move_123 rfl fl_X8_46 kd_88 rfl rfl rfl rfl ?_
    refine wp_iload 128 dX8_move_126 rfl rfl ?_
    refine wp_aload_n 129 dX8_move_128 rfl rfl ?_
    refine wp_getR 12 100 132 dX8_move_129 rfl fl_X8_43 kd_88 rfl rfl rfl rfl ?_
    refine wp_bipush (24 : Int32) 134 dX8_move_132 kbipush_24 rfl ?_
    refine wp_iload_n 135 dX8_move_134 rfl rfl ?_
    refine wp_imul 136 dX8_move_135 rfl ?_
    refine wp_iload_n 137 dX8_move_136 rfl rfl ?_
    refine wp_iadd 138 dX8_move_137 rfl ?_
    refine wp_iload 140 dX8_move_138 rfl rfl ?_
    refine wp_iadd 141 dX8_move_140 rfl ?_
    have c2 := H.1; replace H := H.2
    refine wp_iald 142 dX8_move_141 rfl kd_100 c2 ?_
    have c3 := H.1; replace H := H.2
    refine wp_iast 143 dX8_move_142 rfl kd_101 c3 ?_
    refine wp_nm (fun h4 eh4 => ?_)
    replace H := H h4 eh4
    refine wp_iinc (1 : Int32) 146 dX8_move_143 rfl rfl kiconst_1 (Nat.le_of_ble_eq_true rfl) rfl ?_
    refine wp_goto 115 dX8_move_146 rfl ?_
    exact H

theorem sg_X8_move_152 {G : kG} {d : Nat} {Q : Int32 → kM → Prop}  {v1 : Int32} {v2 : Int32} {v3 : Int32} {v4 : Int32} {v5 : Int32} {v6 : Int32} {h : kM} (hd : 3 ≤ d)  (H :
    ((v5 ≤ v6 →
      Q v5 h
    ) ∧ (¬ (v5 ≤ v6) →
      (vp_in v6 24) ∧
      (vp_in ((((24 : Int32) * v3) + v4) + v6) 96) ∧
      ∀ h4 : kM, h4 = kU h 100 (((((24 : Int32) * v3) + v4) + v6)).toNatClampNeg (h 101 (v6).toNatClampNeg) →
      at_X8_move_152 G d Q v1 v2 v3 v4 v5 (v6 + (1 : Int32)) h4
    ))) : at_X8_move_152 G d Q v1 v2 v3 v4 v5 v6 h := by
  show Wp G d m_X8_move (kEo G d m_X8_move Q) 152 [.ref 88, .int v1, .int v2, .int v3, .int v4, .int v5, .int v6] [] h
  refine wp_iload 154 dX8_move_152 rfl rfl ?_
  refine wp_iload 156 dX8_move_154 rfl rfl ?_
  refine wp_icmp_ge 187 159 dX8_move_156 rfl rfl ⟨fun c1 => ?_, fun c1 => ?_⟩
  · replace H := H.1 c1
    refine wp_iload 189 dX8_move_187 rfl rfl ?_
    exact wp_reti dX8_move_189 rfl H
  · replace H := H.2 c1
    refine wp_aload_n 160 dX8_move_159 rfl rfl ?_
    refine wp_getR 12 100 163 dX8_move_160 rfl fl_X8_43 kd_88 rfl rfl rfl rfl ?_
    refine wp_bipush (24 : Int32) 165 dX8_move_163 kbipush_24 rfl ?_
    refine wp_iload_n 166 dX8_move_165 rfl rfl ?_
    refine wp_imul 167 dX8_move_166 rfl ?_
    refine wp_iload 169 dX8_move_167 rfl rfl ?_
    refine wp_iadd 170 dX8_move_169 rfl ?_
    refine wp_iload 172 dX8_move_170 rfl rfl ?_
    refine wp_iadd 173 dX8_move_172 rfl ?_
    refine wp_aload_n 174 dX8_move_173 rfl rfl ?_
    refine wp_getR 13 101 177 dX8_move_174 rfl fl_X8_46 kd_88 rfl rfl rfl rfl ?_
    refine wp_iload 179 dX8_move_177 rfl rfl ?_
    have c2 := H.1; replace H := H.2
    refine wp_iald 180 dX8_move_179 rfl kd_101 c2 ?_
    have c3 := H.1; replace H := H.2
    refine wp_iast 181 dX8_move_180 rfl kd_100 c3 ?_
    refine wp_nm (fun h4 eh4 => ?_)
    replace H := H h4 eh4
    refine wp_iinc (1 : Int32) 184 dX8_move_181 rfl rfl kiconst_1 (Nat.le_of_ble_eq_true rfl) rfl ?_
    refine wp_goto 152 dX8_move_184 rfl ?_
    exact H

theorem sub_ti {N : Nat} (hN : N ≤ 24) {y : Int32} (hy : 0 ≤ y) : (nI N - y).toInt = (N : Int) - y.toInt := by
  have h1 := Int32.toInt_lt y
  rw [Int32.le_iff_toInt_le] at hy
  have h0 : (0 : Int32).toInt = 0 := rfl
  rw [Int32.toInt_sub, nI_toInt (by omega)]
  exact Int.bmod_eq_of_le (by omega) (by omega)
theorem kHolds_n {N : Nat} (hN : N ≤ 24) {x y : Int32} (hh : kHolds (nI N) x y) : ∃ i m, i + m ≤ N ∧ x = nI i ∧ y = nI m := by
  obtain ⟨⟨y0, y1⟩, x0, x1⟩ := hh
  obtain ⟨m, -, hm, rfl⟩ := iB 0 N (by omega) y0 y1 (Nat.zero_le _)
  rw [pk_sub hm] at x1
  obtain ⟨i, -, hi, rfl⟩ := iB 0 (N - m) (by omega) x0 x1 (Nat.zero_le _)
  exact ⟨i, m, by omega, rfl, rfl⟩
theorem kHolds_i {N : Nat} (hN : N ≤ 24) {x y : Int32} (y0 : ¬ y < 0) (x0 : ¬ x < 0) (x1 : x ≤ nI N - y) : kHolds (nI N) x y := by
  have t := sub_ti hN (nlt y0)
  have h0 : (0 : Int32).toInt = 0 := rfl
  refine ⟨⟨nlt y0, ?_⟩, nlt x0, x1⟩
  have a0 := nlt x0
  rw [Int32.le_iff_toInt_le] at x1 a0 ⊢
  rw [nI_toInt (by omega)]
  omega
theorem mo_move (hd : 3 ≤ d) {s t N M : Nat} {a2 a4 a5 : Int32} (hs : s < 4) (ht : t < 4) (hN : N ≤ 24) (hM : M ≤ 24) (z1 : ¬ h 98 s = 0) (z2 : ¬ h 98 t = 0) (eb : h 98 s = h 98 t) (e1 : h 99 s = nI N) (e2 : h 99 t = nI M) (err : ¬ (kHolds (nI N) a2 a5 ∧ kHolds (nI M) a4 a5) → ∀ h2, h2 = kErr h 93 1 → Q (-1000000000 - 1) h2) (go : kHolds (nI N) a2 a5 → kHolds (nI M) a4 a5 → at_X8_move_115 G d Q (nI s) a2 (nI t) a4 a5 0 h) : Cal G d m_X8_move [.ref 88, .int (nI s), .int a2, .int (nI t), .int a4, .int a5] h Q := by
  have cs : (nI s).toNatClampNeg = s := nI_clamp (by omega)
  have ct : (nI t).toNatClampNeg = t := nI_clamp (by omega)
  have vns : vp_in (nI s) 4 := vp_in_nI hs (by decide)
  have vnt : vp_in (nI t) 4 := vp_in_nI ht (by decide)
  have i1 := kin7 (n := 1) (by decide)
  refine cg_X8_move hd ⟨fun q => absurd (i3.mpr (iLt hs (by decide))) (kb_0.mp q), fun _ => ⟨fun _ => ⟨vns, ⟨fun z => absurd (by rw [cs] at z; exact z) z1, fun _ => ⟨vnt, ⟨fun _ => ⟨vns, vnt, ⟨fun _ => ?_, fun z => absurd (by rw [cs, ct]; exact eb) z⟩⟩, fun z => absurd (by rw [ct] at z; exact z) z2⟩⟩⟩⟩, fun q => absurd (i3.mpr (iLt ht (by decide))) (kb_0.mp q)⟩⟩
  rw [cs, ct, e1, e2]
  refine ⟨fun c => ⟨i1, err (fun k => len k.1.1.1 c)⟩, fun n5 => ⟨fun c => ⟨i1, err (fun k => len k.1.2.1 c)⟩, fun n2 => ⟨fun c => ⟨i1, err (fun k => len k.2.2.1 c)⟩, fun n4 => ⟨vns, ⟨fun c => ⟨i1, err (fun k => len k.1.2.2 c)⟩, fun c1 => ⟨vnt, ⟨fun c2 => ?_, fun c => ⟨i1, err (fun k => c k.2.2.2)⟩⟩⟩⟩⟩⟩⟩⟩
  exact go (kHolds_i hN n5 n2 (nlt c1)) (kHolds_i hM n5 n4 c2)
theorem ix24b (s i k : Nat) : (24 : Int32) * nI s + nI i + nI k = nI (24 * s + i + k) := by
  rw [ix24, nI_add]
theorem lp_mv1 (hd : 3 ≤ d) {s t i j n : Nat} (hs : s < 4) (hi : i + n ≤ 24) (kk : ∀ h1, (∀ a, a ≠ 101 → h1 a = h a) → (∀ x, x < n → h1 101 x = h 100 (24 * s + i + x)) → at_X8_move_152 G d Q (nI s) (nI i) (nI t) (nI j) (nI n) 0 h1) : ∀ (m k : Nat) (h1 : kM), k + m = n → (∀ a, a ≠ 101 → h1 a = h a) → (∀ x, x < k → h1 101 x = h 100 (24 * s + i + x)) → at_X8_move_115 G d Q (nI s) (nI i) (nI t) (nI j) (nI n) (nI k) h1 := by
  intro m
  induction m with
  | zero =>
    intro k h1 hk ho al
    have hk2 : k = n := by omega
    subst hk2
    exact sg_X8_move_115 hd ⟨fun _ => kk h1 ho al, fun z => absurd (nI_le (Nat.le_refl _) (by omega)) z⟩
  | succ m ih =>
    intro k h1 hk ho al
    refine sg_X8_move_115 hd ⟨fun z => absurd z (ltn (nI_lt (by omega) (by omega))), fun _ => ⟨by rw [ix24b]; exact vp_in_nI (by omega) (by decide), vp_in_nI (by omega) (by decide), fun h4 e4 => ?_⟩⟩
    rw [ix24b, nI_clamp (n := k) (by omega), nI_clamp (by omega), ho 100 (by decide)] at e4
    rw [nI_1]
    refine ih (k + 1) h4 (by omega) (fun a ha => by rw [e4, kU_ne ha, ho a ha]) (fun x hx => ?_)
    rw [e4, kU_eq]
    by_cases e : x = k
    · rw [e, pk_us]
    · rw [pk_un e]
      exact al x (by omega)
theorem lp_mv2 (hd : 3 ≤ d) {s t i j n : Nat} (ht : t < 4) (hj : j + n ≤ 24) (kk : ∀ h1, (∀ a, a ≠ 100 → h1 a = h a) → (∀ x, x < n → h1 100 (24 * t + j + x) = h 101 x) → (∀ x, ¬ (24 * t + j ≤ x ∧ x < 24 * t + j + n) → h1 100 x = h 100 x) → Q (nI n) h1) : ∀ (m k : Nat) (h1 : kM), k + m = n → (∀ a, a ≠ 100 → h1 a = h a) → (∀ x, x < k → h1 100 (24 * t + j + x) = h 101 x) → (∀ x, ¬ (24 * t + j ≤ x ∧ x < 24 * t + j + n) → h1 100 x = h 100 x) → at_X8_move_152 G d Q (nI s) (nI i) (nI t) (nI j) (nI n) (nI k) h1 := by
  intro m
  induction m with
  | zero =>
    intro k h1 hk ho al hr
    have hk2 : k = n := by omega
    subst hk2
    exact sg_X8_move_152 hd ⟨fun _ => kk h1 ho al hr, fun z => absurd (nI_le (Nat.le_refl _) (by omega)) z⟩
  | succ m ih =>
    intro k h1 hk ho al hr
    refine sg_X8_move_152 hd ⟨fun z => absurd z (ltn (nI_lt (by omega) (by omega))), fun _ => ⟨vp_in_nI (by omega) (by decide), by rw [ix24b]; exact vp_in_nI (by omega) (by decide), fun h4 e4 => ?_⟩⟩
    rw [ix24b, nI_clamp (n := k) (by omega), nI_clamp (by omega), ho 101 (by decide)] at e4
    rw [nI_1]
    refine ih (k + 1) h4 (by omega) (fun a ha => by rw [e4, kU_ne ha, ho a ha]) (fun x hx => ?_) (fun x hx => ?_)
    · rw [e4, kU_eq]
      by_cases e : x = k
      · rw [e, pk_us]
      · rw [pk_un (by omega)]
        exact al x (by omega)
    · rw [e4, kU_eq, pk_un (by omega)]
      exact hr x hx
/-- numbers of one Sheet come to another one in both -/
theorem kMoved (hR : kRel h) {s t i j n N M : Nat} (hs : s < 4) (ht : t < 4) (hN : N ≤ 24) (hM : M ≤ 24) (hi : i + n ≤ N) (hj : j + n ≤ M) (eb : h 98 s = h 98 t) {h1 h2 h3 : kM} (e1 : h1 = kCp h (80 + 2 * s) (80 + 2 * t) i j n) (o2 : ∀ a, a ≠ 101 → h2 a = h1 a) (c2 : ∀ x, x < n → h2 101 x = h1 100 (24 * s + i + x)) (o3 : ∀ a, a ≠ 100 → h3 a = h2 a) (c3 : ∀ x, x < n → h3 100 (24 * t + j + x) = h2 101 x) (r3 : ∀ x, ¬ (24 * t + j ≤ x ∧ x < 24 * t + j + n) → h3 100 x = h2 100 x) : kRel h3 := by
  have ho : ∀ a, a ≠ 100 → a ≠ 101 → a ≠ 80 + 2 * t → h3 a = h a := fun a x y z => by rw [o3 a x, o2 a y, e1, kCp_ne z]
  have e100 : h1 100 = h 100 := by rw [e1, kCp_ne (by omega)]
  have e2100 : h2 100 = h 100 := by rw [o2 100 (by decide), e100]
  refine hR.sheets (fun a x1 x2 x3 x4 x5 => ho a x4 (by unfold kScr at x5; omega) (by omega)) (fun u hu => ?_)
  have g98 : h3 98 = h 98 := ho 98 (by decide) (by decide) (by omega)
  have g99 : h3 99 = h 99 := ho 99 (by decide) (by decide) (by omega)
  by_cases e : u = t
  · subst e
    obtain ⟨⟨M', hM', t2, t3⟩, t4, t5, t6⟩ := hR.2.2.2.2.2 u hu
    obtain ⟨-, -, -, s6⟩ := hR.2.2.2.2.2 s hs
    have gq : h3 (79 + 2 * u) = h (79 + 2 * u) := ho _ (by omega) (by omega) (by omega)
    have g80 : h3 (80 + 2 * u) = va_cpy (h (80 + 2 * s)) (h (80 + 2 * u)) i j n := by rw [o3 _ (by omega), o2 _ (by omega), e1, kCp_eq]
    refine ⟨⟨M', hM', by rw [gq]; exact t2, by rw [g99]; exact t3⟩, by rw [gq, g98]; exact t4, by rw [g98]; exact t5, fun x hx => ?_⟩
    rw [g80, g98]
    by_cases ex : j ≤ x ∧ x < j + n
    · obtain ⟨v, v1, v2⟩ := s6 (i + (x - j)) (by omega)
      refine ⟨v, ?_, ?_⟩
      · rw [pk_cpy_in ex.1 ex.2, v1, eb]
      · have c := c3 (x - j) (by omega)
        rw [c2 (x - j) (by omega), e100, show 24 * u + j + (x - j) = 24 * u + x by omega, show 24 * s + i + (x - j) = 24 * s + (i + (x - j)) by omega, v2, eb] at c
        exact c
    · obtain ⟨v, v1, v2⟩ := t6 x hx
      refine ⟨v, ?_, ?_⟩
      · rw [pk_cpy_out (by omega)]
        exact v1
      · rw [r3 _ (by omega), e2100]
        exact v2
  · refine (hR.2.2.2.2.2 u hu).congr (ho _ (by omega) (by omega) (by omega)) (ho _ (by omega) (by omega) (by omega)) (by rw [g98]) (by rw [g99]) (fun x hx => by rw [r3 _ (by omega), e2100])
theorem st_move (hd : 3 ≤ d) (hR : kRel h) (a1 a2 a3 a4 a5 : Int32) : kStp G d m_X7_move m_X8_move [.int a1, .int a2, .int a3, .int a4, .int a5] h := by
  have i1 := kin7 (n := 1) (by decide)
  have i2' := kin7 (n := 2) (by decide)
  have i5 := kin7 (n := 5) (by decide)
  by_cases hc : 0 ≤ a1 ∧ a1 < 4
  · by_cases hv : 0 ≤ a3 ∧ a3 < 4
    · obtain ⟨s, hs, rfl⟩ := iI (n := 4) (by decide) hc.1 hc.2
      obtain ⟨t, ht, rfl⟩ := iI (n := 4) (by decide) hv.1 hv.2
      have cs : (nI s).toNatClampNeg = s := nI_clamp (by omega)
      have ct : (nI t).toNatClampNeg = t := nI_clamp (by omega)
      have vns : vp_in (nI s) 4 := vp_in_nI hs (by decide)
      have vnt : vp_in (nI t) 4 := vp_in_nI ht (by decide)
      have c3 : ¬ kb (0 ≤ nI s ∧ nI s ≤ 3) = 0 := fun q => absurd (i3.mpr hc) (kb_0.mp q)
      have c4 : ¬ kb (0 ≤ nI t ∧ nI t ≤ 3) = 0 := fun q => absurd (i3.mpr hv) (kb_0.mp q)
      obtain ⟨⟨N, hN, r2, r3⟩, r4, r5, r6⟩ := hR.2.2.2.2.2 s hs
      obtain ⟨⟨M, hM, t2, t3⟩, t4, t5, t6⟩ := hR.2.2.2.2.2 t ht
      refine cg_X7_move hd ⟨fun q => absurd hc (kb_0.mp q), fun _ => ⟨fun _ => ⟨vns, fun q6 e6 k6 => ⟨vnt, fun q8 e8 k8 => ?_⟩⟩, fun q => absurd hv (kb_0.mp q)⟩⟩
      rw [cs] at e6
      rw [ct] at e8
      subst e6
      subst e8
      rw [r4, t4, r2, t2, show 79 + 2 * s + 1 = 80 + 2 * s by omega, show 79 + 2 * t + 1 = 80 + 2 * t by omega]
      by_cases hz : h 98 s = 0
      · refine ⟨fun _ => ⟨i2', fun h1 e1 => ?_⟩, fun z => absurd hz (kb_n0.mp z)⟩
        have o98 : h1 98 = h 98 := by rw [e1, kErr_ne (by decide)]
        exact cg_X8_move hd ⟨fun q => absurd q c3, fun _ => ⟨fun _ => ⟨vns, ⟨fun _ => ⟨i2', kErrs hR h1 e1⟩, fun z => absurd (by rw [cs, o98]; exact hz) z⟩⟩, fun q => absurd q c4⟩⟩
      refine ⟨fun z => absurd hz (kb_0.mp z), fun _ => ?_⟩
      by_cases hy : h 98 t = 0
      · refine ⟨fun z => absurd hy (kb_n0.mp z), fun _ => ⟨i2', fun h1 e1 => ?_⟩⟩
        have o98 : h1 98 = h 98 := by rw [e1, kErr_ne (by decide)]
        exact cg_X8_move hd ⟨fun q => absurd q c3, fun _ => ⟨fun _ => ⟨vns, ⟨fun z => absurd (by rw [cs, o98] at z; exact z) hz, fun _ => ⟨vnt, ⟨fun z => absurd (by rw [ct, o98]; exact hy) z, fun _ => ⟨i2', kErrs hR h1 e1⟩⟩⟩⟩⟩, fun q => absurd q c4⟩⟩
      refine ⟨fun _ => ?_, fun z => absurd hy (kb_0.mp z)⟩
      by_cases eb : h 98 s = h 98 t
      · refine ⟨fun _ => ?_, fun z => absurd eb z⟩
        have bad : ¬ (kHolds (nI N) a2 a5 ∧ kHolds (nI M) a4 a5) → ∀ h1, h1 = kErr h 87 1 → Cal G d m_X8_move [.ref 88, .int (nI s), .int a2, .int (nI t), .int a4, .int a5] h1 (fun y h2 => -1000000000 - 1 = y ∧ kRel h2) := fun no h1 e1 => by
          have o98 : h1 98 = h 98 := by rw [e1, kErr_ne (by decide)]
          have o99 : h1 99 = h 99 := by rw [e1, kErr_ne (by decide)]
          exact mo_move hd hs ht hN hM (by rw [o98]; exact hz) (by rw [o98]; exact hy) (by rw [o98]; exact eb) (by rw [o99]; exact r3) (by rw [o99]; exact t3) (fun _ => kErrs hR (x := -1000000000 - 1) h1 e1) (fun x y => absurd ⟨x, y⟩ no)
        by_cases k1 : kHolds (nI N) a2 a5
        · refine ⟨fun z => absurd k1 (kb_0.mp z), fun _ => ?_⟩
          by_cases k2 : kHolds (nI M) a4 a5
          · refine ⟨fun _ => ?_, fun z => absurd k2 (kb_0.mp z)⟩
            obtain ⟨i, n, hi, rfl, rfl⟩ := kHolds_n hN k1
            obtain ⟨j, n2, hj, rfl, en⟩ := kHolds_n hM k2
            have en2 : n2 = n := ((nI_eq (by omega) (by omega)).mp en).symm
            subst en2
            rw [nI_clamp (n := i) (by omega), nI_clamp (n := j) (by omega), nI_clamp (n := n2) (by omega)]
            refine ⟨⟨nI_pos (by omega), nI_pos (by omega), nI_pos (by omega), by omega, by omega⟩, fun h1 e1 => ?_⟩
            have o1 : ∀ a, a ≠ 80 + 2 * t → h1 a = h a := fun a ha => by rw [e1, kCp_ne ha]
            have o98 : h1 98 = h 98 := o1 98 (by omega)
            have o99 : h1 99 = h 99 := o1 99 (by omega)
            refine mo_move hd hs ht hN hM (by rw [o98]; exact hz) (by rw [o98]; exact hy) (by rw [o98]; exact eb) (by rw [o99]; exact r3) (by rw [o99]; exact t3) (fun no => absurd ⟨k1, k2⟩ no) (fun _ _ => ?_)
            refine lp_mv1 (h := h1) hd hs (by omega) (fun h2 p2 f2 => ?_) n2 0 h1 (by omega) (fun _ _ => rfl) (fun x hx => absurd hx (Nat.not_lt_zero x))
            refine lp_mv2 (h := h2) hd ht (by omega) (fun h3 p3 f3 g3 => ⟨rfl, ?_⟩) n2 0 h2 (by omega) (fun _ _ => rfl) (fun x hx => absurd hx (Nat.not_lt_zero x)) (fun _ _ => rfl)
            exact kMoved hR hs ht hN hM hi hj eb e1 p2 f2 p3 f3 g3
          · exact ⟨fun z => absurd (kb_n0.mp z) k2, fun _ => ⟨i1, bad (fun y => k2 y.2)⟩⟩
        · exact ⟨fun _ => ⟨i1, bad (fun y => k1 y.1)⟩, fun z => absurd (kb_n0.mp z) k1⟩
      · refine ⟨fun z => absurd z eb, fun _ => ⟨i5, fun h1 e1 => ?_⟩⟩
        have o98 : h1 98 = h 98 := by rw [e1, kErr_ne (by decide)]
        exact cg_X8_move hd ⟨fun q => absurd q c3, fun _ => ⟨fun _ => ⟨vns, ⟨fun z => absurd (by rw [cs, o98] at z; exact z) hz, fun _ => ⟨vnt, ⟨fun _ => ⟨vns, vnt, ⟨fun z => absurd (by rw [cs, ct, o98] at z; exact z) eb, fun _ => ⟨i5, kErrs hR h1 e1⟩⟩⟩, fun z => absurd (by rw [ct, o98] at z; exact z) hy⟩⟩⟩⟩, fun q => absurd q c4⟩⟩
    · refine cg_X7_move hd ⟨fun q => absurd hc (kb_0.mp q), fun _ => ⟨fun q => absurd (kb_n0.mp q) hv, fun _ => ⟨i1, fun h1 e1 => ?_⟩⟩⟩
      exact cg_X8_move hd ⟨fun q => absurd (i3.mpr hc) (kb_0.mp q), fun _ => ⟨fun q => absurd (i3.mp (kb_n0.mp q)) hv, fun _ => ⟨i1, kErrs hR h1 e1⟩⟩⟩
  · refine cg_X7_move hd ⟨fun _ => ⟨i1, fun h1 e1 => ?_⟩, fun q => absurd (kb_n0.mp q) hc⟩
    exact cg_X8_move hd ⟨fun _ => ⟨i1, kErrs hR h1 e1⟩, fun q => absurd (i3.mp (kb_n0.mp q)) hc⟩
end Judge

