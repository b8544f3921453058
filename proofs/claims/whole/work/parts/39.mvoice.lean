/-! voices: the model, and both -/
section MVoice
variable {G : kG} {d : Nat} {Q : Int32 → kM → Prop} {h : kM}
def kMp (t : Nat) (M K : Int32) (h : kM) : Prop := h 88 18 = K ∧ mIt (h 89) K 0 = nI t ∧ mIt (h 89) K 1 = M ∧ okI K 0 ∧ okI K 1
theorem kMp.f {t : Nat} {M K : Int32} {h h1 : kM} (p : kMp t M K h) (f : kMf h h1) : kMp t M K h1 := by
  obtain ⟨p1, p2, p3, p4, p5⟩ := p
  exact ⟨by rw [f.2 18 (by decide), p1], by rw [f.1 89 (by decide) (by decide), p2], by rw [f.1 89 (by decide) (by decide), p3], p4, p5⟩
theorem sg_X8_blowsAs_0 {G : kG} {d : Nat} {Q : Int32 → kM → Prop}  {a1 : Int32} {a2 : Int32} {h : kM} (hd : 2 ≤ d)  (H :
    ((a1 = (0 : Int32) →
      (¬ 30 ≤ h 88 17 → vp_in (h 88 17) 30) ∧
      ∀ h2 : kM, h2 = mBeg h (10 : Int32) →
      Q (a2 + (h2 88 18)) h2
    ) ∧ (¬ a1 = (0 : Int32) →
    ((a1 = (1 : Int32) →
      (¬ 30 ≤ h 88 17 → vp_in (h 88 17) 30) ∧
      ∀ h5 : kM, h5 = mBeg h (20 : Int32) →
      Cal G (d - 1) m_X8_blowsAs [.ref 88, .int (mAb (1 : Int32)), .int a2] h5 (fun x6 h7 =>
        Q (x6 - (9 : Int32)) h7
      )
    ) ∧ (¬ a1 = (1 : Int32) →
    ((a1 = (4 : Int32) →
      (¬ 30 ≤ h 88 17 → vp_in (h 88 17) 30) ∧
      ∀ h10 : kM, h10 = mBeg h (50 : Int32) →
      Cal G (d - 1) m_X8_blowsAs [.ref 88, .int (mAb (4 : Int32)), .int a2] h10 (fun x11 h12 =>
        Q (x11 * (3 : Int32)) h12
      )
    ) ∧ (¬ a1 = (4 : Int32) →
    ((a1 = (6 : Int32) →
      (¬ 30 ≤ h 88 17 → vp_in (h 88 17) 30) ∧
      ∀ h15 : kM, h15 = mBeg h (70 : Int32) →
      Q (6 : Int32) h15
    ) ∧ (¬ a1 = (6 : Int32) →
      Cal G (d - 1) m_X8_blowsAs [.ref 88, .int (mAb a1), .int a2] h (fun x17 h18 =>
        Q x17 h18
      )
    ))))))))) : Wp G d m_X8_blowsAs (kEo G d m_X8_blowsAs Q) 0 [.ref 88, .int a1, .int a2] [] h := by
  refine wp_iload_n 1 dX8_blowsAs_0 rfl rfl ?_
  refine wp_table 103 [((0 : Int32), 44), ((1 : Int32), 57), ((4 : Int32), 76), ((6 : Int32), 94)] dX8_blowsAs_1 rfl (by decide) ?_
  refine ⟨fun c3 => ?_, fun c3 => ?_⟩
  · replace H := H.1 c3
    refine wp_aload_n 45 dX8_blowsAs_44 rfl rfl ?_
    refine wp_bipush (10 : Int32) 47 dX8_blowsAs_45 kbipush_10 rfl ?_
    have c1 := H.1; replace H := H.2
    refine wp_cV (d - 1) 1 [.int (10 : Int32)] [] 50 dX8_blowsAs_47 rfl (lk_X8_253 rfl) (by omega) kd_88 rfl rfl rfl (Nat.le_of_ble_eq_true rfl) (sp_X8_begins (by omega) c1 (fun h2 eh2 => ?_))
    replace H := H h2 eh2
    refine wp_iload_n 51 dX8_blowsAs_50 rfl rfl ?_
    refine wp_aload_n 52 dX8_blowsAs_51 rfl rfl ?_
    refine wp_getI 55 dX8_blowsAs_52 rfl fl_X8_250 kd_88 rfl ?_
    refine wp_iadd 56 dX8_blowsAs_55 rfl ?_
    exact wp_reti dX8_blowsAs_56 rfl H
  · replace H := H.2 c3
    refine ⟨fun c8 => ?_, fun c8 => ?_⟩
    · replace H := H.1 c8
      refine wp_aload_n 58 dX8_blowsAs_57 rfl rfl ?_
      refine wp_bipush (20 : Int32) 60 dX8_blowsAs_58 kbipush_20 rfl ?_
      have c4 := H.1; replace H := H.2
      refine wp_cV (d - 1) 1 [.int (20 : Int32)] [] 63 dX8_blowsAs_60 rfl (lk_X8_253 rfl) (by omega) kd_88 rfl rfl rfl (Nat.le_of_ble_eq_true rfl) (sp_X8_begins (by omega) c4 (fun h5 eh5 => ?_))
      replace H := H h5 eh5
      refine wp_aload_n 64 dX8_blowsAs_63 rfl rfl ?_
      refine wp_iconst (1 : Int32) 65 dX8_blowsAs_64 kiconst_1 rfl ?_
      refine wp_cS (d - 1) 1 [.int (1 : Int32)] [.ref 88] 68 dX8_blowsAs_65 rfl (lk_X8_256 rfl) (by omega) rfl rfl (Nat.le_of_ble_eq_true rfl) (sp_X8_above (by omega)  ?_)
      refine wp_iload_n 69 dX8_blowsAs_68 rfl rfl ?_
      refine wp_cV (d - 1) 2 [.int (mAb (1 : Int32)), .int a2] [] 72 dX8_blowsAs_69 rfl (lk_X8_259 rfl) (by omega) kd_88 rfl rfl rfl (Nat.le_of_ble_eq_true rfl) (H.mono (fun x6 h7 H => ?_))
      refine wp_bipush (9 : Int32) 74 dX8_blowsAs_72 kbipush_9 rfl ?_
      refine wp_isub 75 dX8_blowsAs_74 rfl ?_
      exact wp_reti dX8_blowsAs_75 rfl H
    · replace H := H.2 c8
      refine ⟨fun c13 => ?_, fun c13 => ?_⟩
      · replace H := H.1 c13
        refine wp_aload_n 77 dX8_blowsAs_76 rfl rfl ?_
        refine wp_bipush (50 : Int32) 79 dX8_blowsAs_77 kbipush_50 rfl ?_
        have c9 := H.1; replace H := H.2
        refine wp_cV (d - 1) 1 [.int (50 : Int32)] [] 82 dX8_blowsAs_79 rfl (lk_X8_253 rfl) (by omega) kd_88 rfl rfl rfl (Nat.le_of_ble_eq_true rfl) (sp_X8_begins (by omega) c9 (fun h10 eh10 => ?_))
        replace H := H h10 eh10
        refine wp_aload_n 83 dX8_blowsAs_82 rfl rfl ?_
        refine wp_iconst (4 : Int32) 84 dX8_blowsAs_83 kiconst_4 rfl ?_
        refine wp_cS (d - 1) 1 [.int (4 : Int32)] [.ref 88] 87 dX8_blowsAs_84 rfl (lk_X8_256 rfl) (by omega) rfl rfl (Nat.le_of_ble_eq_true rfl) (sp_X8_above (by omega)  ?_)
        refine wp_iload_n 88 dX8_blowsAs_87 rfl rfl ?_
        refine wp_cV (d - 1) 2 [.int (mAb (4 : Int32)), .int a2] [] 91 dX8_blowsAs_88 rfl (lk_X8_259 rfl) (by omega) kd_88 rfl rfl rfl (Nat.le_of_ble_eq_true rfl) (H.mono (fun x11 h12 H => ?_))
        refine wp_iconst (3 : Int32) 92 dX8_blowsAs_91 kiconst_3 rfl ?_
        refine wp_imul 93 dX8_blowsAs_92 rfl ?_
        exact wp_reti dX8_blowsAs_93 rfl H
      · replace H := H.2 c13
        refine ⟨fun c16 => ?_, fun c16 => ?_⟩
        · replace H := H.1 c16
          refine wp_aload_n 95 dX8_blowsAs_94 rfl rfl ?_
          refine wp_bipush (70 : Int32) 97 dX8_blowsAs_95 kbipush_70 rfl ?_
          have c14 := H.1; replace H := H.2
          refine wp_cV (d - 1) 1 [.int (70 : Int32)] [] 100 dX8_blowsAs_97 rfl (lk_X8_253 rfl) (by omega) kd_88 rfl rfl rfl (Nat.le_of_ble_eq_true rfl) (sp_X8_begins (by omega) c14 (fun h15 eh15 => ?_))
          replace H := H h15 eh15
          refine wp_bipush (6 : Int32) 102 dX8_blowsAs_100 kbipush_6 rfl ?_
          exact wp_reti dX8_blowsAs_102 rfl H
        · replace H := H.2 c16
          show Wp _ _ _ _ _ _ _ _
          refine wp_aload_n 104 dX8_blowsAs_103 rfl rfl ?_
          refine wp_iload_n 105 dX8_blowsAs_104 rfl rfl ?_
          refine wp_cS (d - 1) 1 [.int a1] [.ref 88] 108 dX8_blowsAs_105 rfl (lk_X8_256 rfl) (by omega) rfl rfl (Nat.le_of_ble_eq_true rfl) (sp_X8_above (by omega)  ?_)
          refine wp_iload_n 109 dX8_blowsAs_108 rfl rfl ?_
          refine wp_cV (d - 1) 2 [.int (mAb a1), .int a2] [] 112 dX8_blowsAs_109 rfl (lk_X8_259 rfl) (by omega) kd_88 rfl rfl rfl (Nat.le_of_ble_eq_true rfl) (H.mono (fun x17 h18 H => ?_))
          exact wp_reti dX8_blowsAs_112 rfl H

theorem cg_X8_blowsAs {G : kG} {d : Nat} {Q : Int32 → kM → Prop}  {a1 : Int32} {a2 : Int32} {h : kM} (hd : 2 ≤ d)  (H :
    ((a1 = (0 : Int32) →
      (¬ 30 ≤ h 88 17 → vp_in (h 88 17) 30) ∧
      ∀ h2 : kM, h2 = mBeg h (10 : Int32) →
      Q (a2 + (h2 88 18)) h2
    ) ∧ (¬ a1 = (0 : Int32) →
    ((a1 = (1 : Int32) →
      (¬ 30 ≤ h 88 17 → vp_in (h 88 17) 30) ∧
      ∀ h5 : kM, h5 = mBeg h (20 : Int32) →
      Cal G (d - 1) m_X8_blowsAs [.ref 88, .int (mAb (1 : Int32)), .int a2] h5 (fun x6 h7 =>
        Q (x6 - (9 : Int32)) h7
      )
    ) ∧ (¬ a1 = (1 : Int32) →
    ((a1 = (4 : Int32) →
      (¬ 30 ≤ h 88 17 → vp_in (h 88 17) 30) ∧
      ∀ h10 : kM, h10 = mBeg h (50 : Int32) →
      Cal G (d - 1) m_X8_blowsAs [.ref 88, .int (mAb (4 : Int32)), .int a2] h10 (fun x11 h12 =>
        Q (x11 * (3 : Int32)) h12
      )
    ) ∧ (¬ a1 = (4 : Int32) →
    ((a1 = (6 : Int32) →
      (¬ 30 ≤ h 88 17 → vp_in (h 88 17) 30) ∧
      ∀ h15 : kM, h15 = mBeg h (70 : Int32) →
      Q (6 : Int32) h15
    ) ∧ (¬ a1 = (6 : Int32) →
      Cal G (d - 1) m_X8_blowsAs [.ref 88, .int (mAb a1), .int a2] h (fun x17 h18 =>
        Q x17 h18
      )
    ))))))))) : Cal G d m_X8_blowsAs [.ref 88, .int a1, .int a2] h Q :=
  Cal.of [.ref 88, .int a1, .int a2] (by decide +kernel) (Nat.le_of_ble_eq_true rfl) rfl (sg_X8_blowsAs_0 hd  H)

theorem sg_X8_turnsAs_0 {G : kG} {d : Nat} {Q : Int32 → kM → Prop}  {a1 : Int32} {a2 : Int32} {h : kM} (hd : 3 ≤ d)  (H :
    ((a1 = (0 : Int32) →
      (¬ 30 ≤ h 88 17 → vp_in (h 88 17) 30) ∧
      ∀ h2 : kM, h2 = mBeg h (11 : Int32) →
      (okI (h2 88 18) 0) ∧
      Cal G (d - 1) m_X8_blowsAs [.ref 88, .int (mIt (h2 89) (h2 88 18) 0), .int a2] h2 (fun x4 h5 =>
        Q (x4 * (2 : Int32)) h5
      )
    ) ∧ (¬ a1 = (0 : Int32) →
    ((a1 = (2 : Int32) →
      (¬ 30 ≤ h 88 17 → vp_in (h 88 17) 30) ∧
      ∀ h8 : kM, h8 = mBeg h (30 : Int32) →
      Cal G (d - 1) m_X8_turnsAs [.ref 88, .int (mAb (2 : Int32)), .int a2] h8 (fun x9 h10 =>
        Q ((0 : Int32) - x9) h10
      )
    ) ∧ (¬ a1 = (2 : Int32) →
    ((a1 = (5 : Int32) →
      (¬ 30 ≤ h 88 17 → vp_in (h 88 17) 30) ∧
      ∀ h13 : kM, h13 = mBeg h (60 : Int32) →
      Cal G (d - 1) m_X8_turnsAs [.ref 88, .int (mAb (5 : Int32)), .int (a2 + (1 : Int32))] h13 (fun x14 h15 =>
        Q x14 h15
      )
    ) ∧ (¬ a1 = (5 : Int32) →
    ((a1 = (6 : Int32) →
      (¬ 30 ≤ h 88 17 → vp_in (h 88 17) 30) ∧
      ∀ h18 : kM, h18 = mBeg h (71 : Int32) →
      Cal G (d - 1) m_X8_turnsAs [.ref 88, .int (mAb (6 : Int32)), .int a2] h18 (fun x19 h20 =>
        (okI (h20 88 18) 1) ∧
        Q (x19 + (mIt (h20 89) (h20 88 18) 1)) h20
      )
    ) ∧ (¬ a1 = (6 : Int32) →
      Cal G (d - 1) m_X8_turnsAs [.ref 88, .int (mAb a1), .int a2] h (fun x23 h24 =>
        Q x23 h24
      )
    ))))))))) : Wp G d m_X8_turnsAs (kEo G d m_X8_turnsAs Q) 0 [.ref 88, .int a1, .int a2] [] h := by
  refine wp_iload_n 1 dX8_turnsAs_0 rfl rfl ?_
  refine wp_table 120 [((0 : Int32), 44), ((2 : Int32), 62), ((5 : Int32), 80), ((6 : Int32), 98)] dX8_turnsAs_1 rfl (by decide) ?_
  refine ⟨fun c6 => ?_, fun c6 => ?_⟩
  · replace H := H.1 c6
    refine wp_aload_n 45 dX8_turnsAs_44 rfl rfl ?_
    refine wp_bipush (11 : Int32) 47 dX8_turnsAs_45 kbipush_11 rfl ?_
    have c1 := H.1; replace H := H.2
    refine wp_cV (d - 1) 1 [.int (11 : Int32)] [] 50 dX8_turnsAs_47 rfl (lk_X8_253 rfl) (by omega) kd_88 rfl rfl rfl (Nat.le_of_ble_eq_true rfl) (sp_X8_begins (by omega) c1 (fun h2 eh2 => ?_))
    replace H := H h2 eh2
    refine wp_aload_n 51 dX8_turnsAs_50 rfl rfl ?_
    refine wp_aload_n 52 dX8_turnsAs_51 rfl rfl ?_
    have c3 := H.1; replace H := H.2
    refine wp_cV (d - 1) 0 [] [.ref 88] 55 dX8_turnsAs_52 rfl (lk_X8_262 rfl) (by omega) kd_88 rfl rfl rfl (Nat.le_of_ble_eq_true rfl) (sp_X8_kindNow (by omega) c3 ?_)
    refine wp_iload_n 56 dX8_turnsAs_55 rfl rfl ?_
    refine wp_cV (d - 1) 2 [.int (mIt (h2 89) (h2 88 18) 0), .int a2] [] 59 dX8_turnsAs_56 rfl (lk_X8_259 rfl) (by omega) kd_88 rfl rfl rfl (Nat.le_of_ble_eq_true rfl) (H.mono (fun x4 h5 H => ?_))
    refine wp_iconst (2 : Int32) 60 dX8_turnsAs_59 kiconst_2 rfl ?_
    refine wp_imul 61 dX8_turnsAs_60 rfl ?_
    exact wp_reti dX8_turnsAs_61 rfl H
  · replace H := H.2 c6
    refine ⟨fun c11 => ?_, fun c11 => ?_⟩
    · replace H := H.1 c11
      refine wp_aload_n 63 dX8_turnsAs_62 rfl rfl ?_
      refine wp_bipush (30 : Int32) 65 dX8_turnsAs_63 kbipush_30 rfl ?_
      have c7 := H.1; replace H := H.2
      refine wp_cV (d - 1) 1 [.int (30 : Int32)] [] 68 dX8_turnsAs_65 rfl (lk_X8_253 rfl) (by omega) kd_88 rfl rfl rfl (Nat.le_of_ble_eq_true rfl) (sp_X8_begins (by omega) c7 (fun h8 eh8 => ?_))
      replace H := H h8 eh8
      refine wp_iconst (0 : Int32) 69 dX8_turnsAs_68 kiconst_0 rfl ?_
      refine wp_aload_n 70 dX8_turnsAs_69 rfl rfl ?_
      refine wp_iconst (2 : Int32) 71 dX8_turnsAs_70 kiconst_2 rfl ?_
      refine wp_cS (d - 1) 1 [.int (2 : Int32)] [.ref 88, .int (0 : Int32)] 74 dX8_turnsAs_71 rfl (lk_X8_256 rfl) (by omega) rfl rfl (Nat.le_of_ble_eq_true rfl) (sp_X8_above (by omega)  ?_)
      refine wp_iload_n 75 dX8_turnsAs_74 rfl rfl ?_
      refine wp_cV (d - 1) 2 [.int (mAb (2 : Int32)), .int a2] [.int (0 : Int32)] 78 dX8_turnsAs_75 rfl (lk_X8_265 rfl) (by omega) kd_88 rfl rfl rfl (Nat.le_of_ble_eq_true rfl) (H.mono (fun x9 h10 H => ?_))
      refine wp_isub 79 dX8_turnsAs_78 rfl ?_
      exact wp_reti dX8_turnsAs_79 rfl H
    · replace H := H.2 c11
      refine ⟨fun c16 => ?_, fun c16 => ?_⟩
      · replace H := H.1 c16
        refine wp_aload_n 81 dX8_turnsAs_80 rfl rfl ?_
        refine wp_bipush (60 : Int32) 83 dX8_turnsAs_81 kbipush_60 rfl ?_
        have c12 := H.1; replace H := H.2
        refine wp_cV (d - 1) 1 [.int (60 : Int32)] [] 86 dX8_turnsAs_83 rfl (lk_X8_253 rfl) (by omega) kd_88 rfl rfl rfl (Nat.le_of_ble_eq_true rfl) (sp_X8_begins (by omega) c12 (fun h13 eh13 => ?_))
        replace H := H h13 eh13
        refine wp_aload_n 87 dX8_turnsAs_86 rfl rfl ?_
        refine wp_iconst (5 : Int32) 88 dX8_turnsAs_87 kiconst_5 rfl ?_
        refine wp_cS (d - 1) 1 [.int (5 : Int32)] [.ref 88] 91 dX8_turnsAs_88 rfl (lk_X8_256 rfl) (by omega) rfl rfl (Nat.le_of_ble_eq_true rfl) (sp_X8_above (by omega)  ?_)
        refine wp_iload_n 92 dX8_turnsAs_91 rfl rfl ?_
        refine wp_iconst (1 : Int32) 93 dX8_turnsAs_92 kiconst_1 rfl ?_
        refine wp_iadd 94 dX8_turnsAs_93 rfl ?_
        refine wp_cV (d - 1) 2 [.int (mAb (5 : Int32)), .int (a2 + (1 : Int32))] [] 97 dX8_turnsAs_94 rfl (lk_X8_265 rfl) (by omega) kd_88 rfl rfl rfl (Nat.le_of_ble_eq_true rfl) (H.mono (fun x14 h15 H => ?_))
        exact wp_reti dX8_turnsAs_97 rfl H
      · replace H := H.2 c16
        refine ⟨fun c22 => ?_, fun c22 => ?_⟩
        · replace H := H.1 c22
          refine wp_aload_n 99 dX8_turnsAs_98 rfl rfl ?_
          refine wp_bipush (71 : Int32) 101 dX8_turnsAs_99 kbipush_71 rfl ?_
          have c17 := H.1; replace H := H.2
          refine wp_cV (d - 1) 1 [.int (71 : Int32)] [] 104 dX8_turnsAs_101 rfl (lk_X8_253 rfl) (by omega) kd_88 rfl rfl rfl (Nat.le_of_ble_eq_true rfl) (sp_X8_begins (by omega) c17 (fun h18 eh18 => ?_))
          replace H := H h18 eh18
          refine wp_aload_n 105 dX8_turnsAs_104 rfl rfl ?_
          refine wp_bipush (6 : Int32) 107 dX8_turnsAs_105 kbipush_6 rfl ?_
          refine wp_cS (d - 1) 1 [.int (6 : Int32)] [.ref 88] 110 dX8_turnsAs_107 rfl (lk_X8_256 rfl) (by omega) rfl rfl (Nat.le_of_ble_eq_true rfl) (sp_X8_above (by omega)  ?_)
          refine wp_iload_n 111 dX8_turnsAs_110 rfl rfl ?_
          refine wp_cV (d - 1) 2 [.int (mAb (6 : Int32)), .int a2] [] 114 dX8_turnsAs_111 rfl (lk_X8_265 rfl) (by omega) kd_88 rfl rfl rfl (Nat.le_of_ble_eq_true rfl) (H.mono (fun x19 h20 H => ?_))
          refine wp_aload_n 115 dX8_turnsAs_114 rfl rfl ?_
          have c21 := H.1; replace H := H.2
          refine wp_cV (d - 1) 0 [] [.int x19] 118 dX8_turnsAs_115 rfl (lk_X8_268 rfl) (by omega) kd_88 rfl rfl rfl (Nat.le_of_ble_eq_true rfl) (sp_X8_mNow (by omega) c21 ?_)
          refine wp_iadd 119 dX8_turnsAs_118 rfl ?_
          exact wp_reti dX8_turnsAs_119 rfl H
        · replace H := H.2 c22
          show Wp _ _ _ _ _ _ _ _
          refine wp_aload_n 121 dX8_turnsAs_120 rfl rfl ?_
          refine wp_iload_n 122 dX8_turnsAs_121 rfl rfl ?_
          refine wp_cS (d - 1) 1 [.int a1] [.ref 88] 125 dX8_turnsAs_122 rfl (lk_X8_256 rfl) (by omega) rfl rfl (Nat.le_of_ble_eq_true rfl) (sp_X8_above (by omega)  ?_)
          refine wp_iload_n 126 dX8_turnsAs_125 rfl rfl ?_
          refine wp_cV (d - 1) 2 [.int (mAb a1), .int a2] [] 129 dX8_turnsAs_126 rfl (lk_X8_265 rfl) (by omega) kd_88 rfl rfl rfl (Nat.le_of_ble_eq_true rfl) (H.mono (fun x23 h24 H => ?_))
          exact wp_reti dX8_turnsAs_129 rfl H

theorem cg_X8_turnsAs {G : kG} {d : Nat} {Q : Int32 → kM → Prop}  {a1 : Int32} {a2 : Int32} {h : kM} (hd : 3 ≤ d)  (H :
    ((a1 = (0 : Int32) →
      (¬ 30 ≤ h 88 17 → vp_in (h 88 17) 30) ∧
      ∀ h2 : kM, h2 = mBeg h (11 : Int32) →
      (okI (h2 88 18) 0) ∧
      Cal G (d - 1) m_X8_blowsAs [.ref 88, .int (mIt (h2 89) (h2 88 18) 0), .int a2] h2 (fun x4 h5 =>
        Q (x4 * (2 : Int32)) h5
      )
    ) ∧ (¬ a1 = (0 : Int32) →
    ((a1 = (2 : Int32) →
      (¬ 30 ≤ h 88 17 → vp_in (h 88 17) 30) ∧
      ∀ h8 : kM, h8 = mBeg h (30 : Int32) →
      Cal G (d - 1) m_X8_turnsAs [.ref 88, .int (mAb (2 : Int32)), .int a2] h8 (fun x9 h10 =>
        Q ((0 : Int32) - x9) h10
      )
    ) ∧ (¬ a1 = (2 : Int32) →
    ((a1 = (5 : Int32) →
      (¬ 30 ≤ h 88 17 → vp_in (h 88 17) 30) ∧
      ∀ h13 : kM, h13 = mBeg h (60 : Int32) →
      Cal G (d - 1) m_X8_turnsAs [.ref 88, .int (mAb (5 : Int32)), .int (a2 + (1 : Int32))] h13 (fun x14 h15 =>
        Q x14 h15
      )
    ) ∧ (¬ a1 = (5 : Int32) →
    ((a1 = (6 : Int32) →
      (¬ 30 ≤ h 88 17 → vp_in (h 88 17) 30) ∧
      ∀ h18 : kM, h18 = mBeg h (71 : Int32) →
      Cal G (d - 1) m_X8_turnsAs [.ref 88, .int (mAb (6 : Int32)), .int a2] h18 (fun x19 h20 =>
        (okI (h20 88 18) 1) ∧
        Q (x19 + (mIt (h20 89) (h20 88 18) 1)) h20
      )
    ) ∧ (¬ a1 = (6 : Int32) →
      Cal G (d - 1) m_X8_turnsAs [.ref 88, .int (mAb a1), .int a2] h (fun x23 h24 =>
        Q x23 h24
      )
    ))))))))) : Cal G d m_X8_turnsAs [.ref 88, .int a1, .int a2] h Q :=
  Cal.of [.ref 88, .int a1, .int a2] (by decide +kernel) (Nat.le_of_ble_eq_true rfl) rfl (sg_X8_turnsAs_0 hd  H)

theorem sg_X8_tiesAs_0 {G : kG} {d : Nat} {Q : Int32 → kM → Prop}  {a1 : Int32} {a2 : Int32} {h : kM} (hd : 3 ≤ d)  (H :
    ((a1 = (0 : Int32) →
      (¬ 30 ≤ h 88 17 → vp_in (h 88 17) 30) ∧
      ∀ h2 : kM, h2 = mBeg h (12 : Int32) →
      (okI (h2 88 18) 0) ∧
      Cal G (d - 1) m_X8_turnsAs [.ref 88, .int (mIt (h2 89) (h2 88 18) 0), .int a2] h2 (fun x4 h5 =>
        (okI (h5 88 18) 1) ∧
        Q (x4 - (mIt (h5 89) (h5 88 18) 1)) h5
      )
    ) ∧ (¬ a1 = (0 : Int32) →
    ((a1 = (3 : Int32) →
      (¬ 30 ≤ h 88 17 → vp_in (h 88 17) 30) ∧
      ∀ h9 : kM, h9 = mBeg h (40 : Int32) →
      Cal G (d - 1) m_X8_tiesAs [.ref 88, .int (mAb (3 : Int32)), .int (a2 / (2 : Int32))] h9 (fun x10 h11 =>
        Q x10 h11
      )
    ) ∧ (¬ a1 = (3 : Int32) →
    ((a1 = (4 : Int32) →
      (¬ 30 ≤ h 88 17 → vp_in (h 88 17) 30) ∧
      ∀ h14 : kM, h14 = mBeg h (51 : Int32) →
      Cal G (d - 1) m_X8_tiesAs [.ref 88, .int (mAb (4 : Int32)), .int a2] h14 (fun x15 h16 =>
        Q (x15 ^^^ (h16 88 18)) h16
      )
    ) ∧ (¬ a1 = (4 : Int32) →
      Cal G (d - 1) m_X8_tiesAs [.ref 88, .int (mAb a1), .int a2] h (fun x18 h19 =>
        Q x18 h19
      )
    ))))))) : Wp G d m_X8_tiesAs (kEo G d m_X8_tiesAs Q) 0 [.ref 88, .int a1, .int a2] [] h := by
  refine wp_iload_n 1 dX8_tiesAs_0 rfl rfl ?_
  refine wp_table 96 [((0 : Int32), 36), ((3 : Int32), 57), ((4 : Int32), 75)] dX8_tiesAs_1 rfl (by decide) ?_
  refine ⟨fun c7 => ?_, fun c7 => ?_⟩
  · replace H := H.1 c7
    refine wp_aload_n 37 dX8_tiesAs_36 rfl rfl ?_
    refine wp_bipush (12 : Int32) 39 dX8_tiesAs_37 kbipush_12 rfl ?_
    have c1 := H.1; replace H := H.2
    refine wp_cV (d - 1) 1 [.int (12 : Int32)] [] 42 dX8_tiesAs_39 rfl (lk_X8_253 rfl) (by omega) kd_88 rfl rfl rfl (Nat.le_of_ble_eq_true rfl) (sp_X8_begins (by omega) c1 (fun h2 eh2 => ?_))
    replace H := H h2 eh2
    refine wp_aload_n 43 dX8_tiesAs_42 rfl rfl ?_
    refine wp_aload_n 44 dX8_tiesAs_43 rfl rfl ?_
    have c3 := H.1; replace H := H.2
    refine wp_cV (d - 1) 0 [] [.ref 88] 47 dX8_tiesAs_44 rfl (lk_X8_262 rfl) (by omega) kd_88 rfl rfl rfl (Nat.le_of_ble_eq_true rfl) (sp_X8_kindNow (by omega) c3 ?_)
    refine wp_iload_n 48 dX8_tiesAs_47 rfl rfl ?_
    refine wp_cV (d - 1) 2 [.int (mIt (h2 89) (h2 88 18) 0), .int a2] [] 51 dX8_tiesAs_48 rfl (lk_X8_265 rfl) (by omega) kd_88 rfl rfl rfl (Nat.le_of_ble_eq_true rfl) (H.mono (fun x4 h5 H => ?_))
    refine wp_aload_n 52 dX8_tiesAs_51 rfl rfl ?_
    have c6 := H.1; replace H := H.2
    refine wp_cV (d - 1) 0 [] [.int x4] 55 dX8_tiesAs_52 rfl (lk_X8_268 rfl) (by omega) kd_88 rfl rfl rfl (Nat.le_of_ble_eq_true rfl) (sp_X8_mNow (by omega) c6 ?_)
    refine wp_isub 56 dX8_tiesAs_55 rfl ?_
    exact wp_reti dX8_tiesAs_56 rfl H
  · replace H := H.2 c7
    refine ⟨fun c12 => ?_, fun c12 => ?_⟩
    · replace H := H.1 c12
      refine wp_aload_n 58 dX8_tiesAs_57 rfl rfl ?_
      refine wp_bipush (40 : Int32) 60 dX8_tiesAs_58 kbipush_40 rfl ?_
      have c8 := H.1; replace H := H.2
      refine wp_cV (d - 1) 1 [.int (40 : Int32)] [] 63 dX8_tiesAs_60 rfl (lk_X8_253 rfl) (by omega) kd_88 rfl rfl rfl (Nat.le_of_ble_eq_true rfl) (sp_X8_begins (by omega) c8 (fun h9 eh9 => ?_))
      replace H := H h9 eh9
      refine wp_aload_n 64 dX8_tiesAs_63 rfl rfl ?_
      refine wp_iconst (3 : Int32) 65 dX8_tiesAs_64 kiconst_3 rfl ?_
      refine wp_cS (d - 1) 1 [.int (3 : Int32)] [.ref 88] 68 dX8_tiesAs_65 rfl (lk_X8_256 rfl) (by omega) rfl rfl (Nat.le_of_ble_eq_true rfl) (sp_X8_above (by omega)  ?_)
      refine wp_iload_n 69 dX8_tiesAs_68 rfl rfl ?_
      refine wp_iconst (2 : Int32) 70 dX8_tiesAs_69 kiconst_2 rfl ?_
      refine wp_idiv 71 dX8_tiesAs_70 (by decide) rfl ?_
      refine wp_cV (d - 1) 2 [.int (mAb (3 : Int32)), .int (a2 / (2 : Int32))] [] 74 dX8_tiesAs_71 rfl (lk_X8_271 rfl) (by omega) kd_88 rfl rfl rfl (Nat.le_of_ble_eq_true rfl) (H.mono (fun x10 h11 H => ?_))
      exact wp_reti dX8_tiesAs_74 rfl H
    · replace H := H.2 c12
      refine ⟨fun c17 => ?_, fun c17 => ?_⟩
      · replace H := H.1 c17
        refine wp_aload_n 76 dX8_tiesAs_75 rfl rfl ?_
        refine wp_bipush (51 : Int32) 78 dX8_tiesAs_76 kbipush_51 rfl ?_
        have c13 := H.1; replace H := H.2
        refine wp_cV (d - 1) 1 [.int (51 : Int32)] [] 81 dX8_tiesAs_78 rfl (lk_X8_253 rfl) (by omega) kd_88 rfl rfl rfl (Nat.le_of_ble_eq_true rfl) (sp_X8_begins (by omega) c13 (fun h14 eh14 => ?_))
        replace H := H h14 eh14
        refine wp_aload_n 82 dX8_tiesAs_81 rfl rfl ?_
        refine wp_iconst (4 : Int32) 83 dX8_tiesAs_82 kiconst_4 rfl ?_
        refine wp_cS (d - 1) 1 [.int (4 : Int32)] [.ref 88] 86 dX8_tiesAs_83 rfl (lk_X8_256 rfl) (by omega) rfl rfl (Nat.le_of_ble_eq_true rfl) (sp_X8_above (by omega)  ?_)
        refine wp_iload_n 87 dX8_tiesAs_86 rfl rfl ?_
        refine wp_cV (d - 1) 2 [.int (mAb (4 : Int32)), .int a2] [] 90 dX8_tiesAs_87 rfl (lk_X8_271 rfl) (by omega) kd_88 rfl rfl rfl (Nat.le_of_ble_eq_true rfl) (H.mono (fun x15 h16 H => ?_))
        refine wp_aload_n 91 dX8_tiesAs_90 rfl rfl ?_
        refine wp_getI 94 dX8_tiesAs_91 rfl fl_X8_250 kd_88 rfl ?_
        refine wp_ixor 95 dX8_tiesAs_94 rfl ?_
        exact wp_reti dX8_tiesAs_95 rfl H
      · replace H := H.2 c17
        show Wp _ _ _ _ _ _ _ _
        refine wp_aload_n 97 dX8_tiesAs_96 rfl rfl ?_
        refine wp_iload_n 98 dX8_tiesAs_97 rfl rfl ?_
        refine wp_cS (d - 1) 1 [.int a1] [.ref 88] 101 dX8_tiesAs_98 rfl (lk_X8_256 rfl) (by omega) rfl rfl (Nat.le_of_ble_eq_true rfl) (sp_X8_above (by omega)  ?_)
        refine wp_iload_n 102 dX8_tiesAs_101 rfl rfl ?_
        refine wp_cV (d - 1) 2 [.int (mAb a1), .int a2] [] 105 dX8_tiesAs_102 rfl (lk_X8_271 rfl) (by omega) kd_88 rfl rfl rfl (Nat.le_of_ble_eq_true rfl) (H.mono (fun x18 h19 H => ?_))
        exact wp_reti dX8_tiesAs_105 rfl H

theorem cg_X8_tiesAs {G : kG} {d : Nat} {Q : Int32 → kM → Prop}  {a1 : Int32} {a2 : Int32} {h : kM} (hd : 3 ≤ d)  (H :
    ((a1 = (0 : Int32) →
      (¬ 30 ≤ h 88 17 → vp_in (h 88 17) 30) ∧
      ∀ h2 : kM, h2 = mBeg h (12 : Int32) →
      (okI (h2 88 18) 0) ∧
      Cal G (d - 1) m_X8_turnsAs [.ref 88, .int (mIt (h2 89) (h2 88 18) 0), .int a2] h2 (fun x4 h5 =>
        (okI (h5 88 18) 1) ∧
        Q (x4 - (mIt (h5 89) (h5 88 18) 1)) h5
      )
    ) ∧ (¬ a1 = (0 : Int32) →
    ((a1 = (3 : Int32) →
      (¬ 30 ≤ h 88 17 → vp_in (h 88 17) 30) ∧
      ∀ h9 : kM, h9 = mBeg h (40 : Int32) →
      Cal G (d - 1) m_X8_tiesAs [.ref 88, .int (mAb (3 : Int32)), .int (a2 / (2 : Int32))] h9 (fun x10 h11 =>
        Q x10 h11
      )
    ) ∧ (¬ a1 = (3 : Int32) →
    ((a1 = (4 : Int32) →
      (¬ 30 ≤ h 88 17 → vp_in (h 88 17) 30) ∧
      ∀ h14 : kM, h14 = mBeg h (51 : Int32) →
      Cal G (d - 1) m_X8_tiesAs [.ref 88, .int (mAb (4 : Int32)), .int a2] h14 (fun x15 h16 =>
        Q (x15 ^^^ (h16 88 18)) h16
      )
    ) ∧ (¬ a1 = (4 : Int32) →
      Cal G (d - 1) m_X8_tiesAs [.ref 88, .int (mAb a1), .int a2] h (fun x18 h19 =>
        Q x18 h19
      )
    ))))))) : Cal G d m_X8_tiesAs [.ref 88, .int a1, .int a2] h Q :=
  Cal.of [.ref 88, .int a1, .int a2] (by decide +kernel) (Nat.le_of_ble_eq_true rfl) rfl (sg_X8_tiesAs_0 hd  H)

theorem sg_X8_partsAs_0 {G : kG} {d : Nat} {Q : Int32 → kM → Prop}  {a1 : Int32} {a2 : Int32} {h : kM} (hd : 3 ≤ d)  (H :
    ((a1 = (0 : Int32) →
      (¬ 30 ≤ h 88 17 → vp_in (h 88 17) 30) ∧
      ∀ h2 : kM, h2 = mBeg h (13 : Int32) →
      (okI (h2 88 18) 1) ∧
      ((¬ ((mIt (h2 89) (h2 88 18) 1) - (h2 88 18)) = 0 →
        ∀ h5 : kM, h5 = kU h2 88 19 (0 : Int32) →
        ((¬ ((mIt (h2 89) (h2 88 18) 1) - (h2 88 18)) = (-1 : Int32) →
          (¬ ((mIt (h2 89) (h2 88 18) 1) - (h2 88 18)) = 0) ∧
          Q (a2 / ((mIt (h2 89) (h2 88 18) 1) - (h2 88 18))) h5
        ) ∧ (((mIt (h2 89) (h2 88 18) 1) - (h2 88 18)) = (-1 : Int32) →
          Q (-a2) h5
        ))
      ) ∧ (((mIt (h2 89) (h2 88 18) 1) - (h2 88 18)) = 0 →
        ∀ h9 : kM, h9 = kU h2 88 19 (1 : Int32) →
        Q (0 : Int32) h9
      ))
    ) ∧ (¬ a1 = (0 : Int32) →
    ((a1 = (1 : Int32) →
      (¬ 30 ≤ h 88 17 → vp_in (h 88 17) 30) ∧
      ∀ h13 : kM, h13 = mBeg h (21 : Int32) →
      Cal G (d - 1) m_X8_partsAs [.ref 88, .int (mAb (1 : Int32)), .int a2] h13 (fun x14 h15 =>
        (((h15 88 19) = 0 →
          (okI (h15 88 18) 0) ∧
          Cal G (d - 1) m_X8_turnsAs [.ref 88, .int (mIt (h15 89) (h15 88 18) 0), .int (1 : Int32)] h15 (fun x18 h19 =>
            Q (x14 + x18) h19
          )
        ) ∧ (¬ ((h15 88 19) = 0) →
          Q (0 : Int32) h15
        ))
      )
    ) ∧ (¬ a1 = (1 : Int32) →
      Cal G (d - 1) m_X8_partsAs [.ref 88, .int (mAb a1), .int a2] h (fun x21 h22 =>
        Q x21 h22
      )
    ))))) : Wp G d m_X8_partsAs (kEo G d m_X8_partsAs Q) 0 [.ref 88, .int a1, .int a2, .null, .null] [] h := by
  refine wp_iload_n 1 dX8_partsAs_0 rfl rfl ?_
  refine wp_lookup 120 [((0 : Int32), 28), ((1 : Int32), 79)] dX8_partsAs_1 (by decide) rfl (by decide) ?_
  refine ⟨fun c11 => ?_, fun c11 => ?_⟩
  · replace H := H.1 c11
    refine wp_aload_n 29 dX8_partsAs_28 rfl rfl ?_
    refine wp_bipush (13 : Int32) 31 dX8_partsAs_29 kbipush_13 rfl ?_
    have c1 := H.1; replace H := H.2
    refine wp_cV (d - 1) 1 [.int (13 : Int32)] [] 34 dX8_partsAs_31 rfl (lk_X8_253 rfl) (by omega) kd_88 rfl rfl rfl (Nat.le_of_ble_eq_true rfl) (sp_X8_begins (by omega) c1 (fun h2 eh2 => ?_))
    replace H := H h2 eh2
    refine wp_aload_n 35 dX8_partsAs_34 rfl rfl ?_
    have c3 := H.1; replace H := H.2
    refine wp_cV (d - 1) 0 [] [] 38 dX8_partsAs_35 rfl (lk_X8_268 rfl) (by omega) kd_88 rfl rfl rfl (Nat.le_of_ble_eq_true rfl) (sp_X8_mNow (by omega) c3 ?_)
    refine wp_aload_n 39 dX8_partsAs_38 rfl rfl ?_
    refine wp_getI 42 dX8_partsAs_39 rfl fl_X8_250 kd_88 rfl ?_
    refine wp_isub 43 dX8_partsAs_42 rfl ?_
    refine wp_istore_n 44 dX8_partsAs_43 rfl (Nat.le_of_ble_eq_true rfl) rfl ?_
    refine wp_aload_n 45 dX8_partsAs_44 rfl rfl ?_
    refine wp_iload_n 46 dX8_partsAs_45 rfl rfl ?_
    refine wp_if_ne 53 49 dX8_partsAs_46 rfl rfl ⟨fun c4 => ?_, fun c4 => ?_⟩
    · replace H := H.1 c4
      refine wp_iconst (0 : Int32) 54 dX8_partsAs_53 kiconst_0 rfl ?_
      refine wp_putZ 57 dX8_partsAs_54 rfl fl_X8_274 fin_8_19 kd_88 rfl (Or.inl rfl) ?_
      refine wp_nm (fun h5 eh5 => ?_)
      replace H := H h5 eh5
      refine wp_iload_n 58 dX8_partsAs_57 rfl rfl ?_
      refine wp_if_ne 65 61 dX8_partsAs_58 rfl rfl ⟨fun c6 => ?_, fun c6 => absurd c6 c4⟩
      refine wp_iload_n 66 dX8_partsAs_65 rfl rfl ?_
      refine wp_iconst (-1 : Int32) 67 dX8_partsAs_66 kiconst_m1 rfl ?_
      refine wp_icmp_ne 75 70 dX8_partsAs_67 rfl rfl ⟨fun c7 => ?_, fun c7 => ?_⟩
      · replace H := H.1 c7
        refine wp_iload_n 76 dX8_partsAs_75 rfl rfl ?_
        refine wp_iload_n 77 dX8_partsAs_76 rfl rfl ?_
        have c8 := H.1; replace H := H.2
        refine wp_idiv 78 dX8_partsAs_77 c8 rfl ?_
        exact wp_reti dX8_partsAs_78 rfl H
      · replace H := H.2 c7
        refine wp_iload_n 71 dX8_partsAs_70 rfl rfl ?_
        refine wp_ineg 72 dX8_partsAs_71 rfl ?_
        refine wp_goto 78 dX8_partsAs_72 rfl ?_
        exact wp_reti dX8_partsAs_78 rfl H
    · replace H := H.2 c4
      refine wp_iconst (1 : Int32) 50 dX8_partsAs_49 kiconst_1 rfl ?_
      refine wp_goto 54 dX8_partsAs_50 rfl ?_
      refine wp_putZ 57 dX8_partsAs_54 rfl fl_X8_274 fin_8_19 kd_88 rfl (Or.inr rfl) ?_
      refine wp_nm (fun h9 eh9 => ?_)
      replace H := H h9 eh9
      refine wp_iload_n 58 dX8_partsAs_57 rfl rfl ?_
      refine wp_if_ne 65 61 dX8_partsAs_58 rfl rfl ⟨fun c10 => absurd c4 c10, fun c10 => ?_⟩
      refine wp_iconst (0 : Int32) 62 dX8_partsAs_61 kiconst_0 rfl ?_
      refine wp_goto 78 dX8_partsAs_62 rfl ?_
      exact wp_reti dX8_partsAs_78 rfl H
  · replace H := H.2 c11
    refine ⟨fun c20 => ?_, fun c20 => ?_⟩
    · replace H := H.1 c20
      refine wp_aload_n 80 dX8_partsAs_79 rfl rfl ?_
      refine wp_bipush (21 : Int32) 82 dX8_partsAs_80 kbipush_21 rfl ?_
      have c12 := H.1; replace H := H.2
      refine wp_cV (d - 1) 1 [.int (21 : Int32)] [] 85 dX8_partsAs_82 rfl (lk_X8_253 rfl) (by omega) kd_88 rfl rfl rfl (Nat.le_of_ble_eq_true rfl) (sp_X8_begins (by omega) c12 (fun h13 eh13 => ?_))
      replace H := H h13 eh13
      refine wp_aload_n 86 dX8_partsAs_85 rfl rfl ?_
      refine wp_iconst (1 : Int32) 87 dX8_partsAs_86 kiconst_1 rfl ?_
      refine wp_cS (d - 1) 1 [.int (1 : Int32)] [.ref 88] 90 dX8_partsAs_87 rfl (lk_X8_256 rfl) (by omega) rfl rfl (Nat.le_of_ble_eq_true rfl) (sp_X8_above (by omega)  ?_)
      refine wp_iload_n 91 dX8_partsAs_90 rfl rfl ?_
      refine wp_cV (d - 1) 2 [.int (mAb (1 : Int32)), .int a2] [] 94 dX8_partsAs_91 rfl (lk_X8_278 rfl) (by omega) kd_88 rfl rfl rfl (Nat.le_of_ble_eq_true rfl) (H.mono (fun x14 h15 H => ?_))
      refine wp_istore 96 dX8_partsAs_94 rfl (Nat.le_of_ble_eq_true rfl) rfl ?_
      refine wp_aload_n 97 dX8_partsAs_96 rfl rfl ?_
      refine wp_getI 100 dX8_partsAs_97 rfl fl_X8_274 kd_88 rfl ?_
      refine wp_if_eq 107 103 dX8_partsAs_100 rfl rfl ⟨fun c16 => ?_, fun c16 => ?_⟩
      · replace H := H.1 c16
        refine wp_iload 109 dX8_partsAs_107 rfl rfl ?_
        refine wp_aload_n 110 dX8_partsAs_109 rfl rfl ?_
        refine wp_aload_n 111 dX8_partsAs_110 rfl rfl ?_
        have c17 := H.1; replace H := H.2
        refine wp_cV (d - 1) 0 [] [.ref 88, .int x14] 114 dX8_partsAs_111 rfl (lk_X8_262 rfl) (by omega) kd_88 rfl rfl rfl (Nat.le_of_ble_eq_true rfl) (sp_X8_kindNow (by omega) c17 ?_)
        refine wp_iconst (1 : Int32) 115 dX8_partsAs_114 kiconst_1 rfl ?_
        refine wp_cV (d - 1) 2 [.int (mIt (h15 89) (h15 88 18) 0), .int (1 : Int32)] [.int x14] 118 dX8_partsAs_115 rfl (lk_X8_265 rfl) (by omega) kd_88 rfl rfl rfl (Nat.le_of_ble_eq_true rfl) (H.mono (fun x18 h19 H => ?_))
        refine wp_iadd 119 dX8_partsAs_118 rfl ?_
        exact wp_reti dX8_partsAs_119 rfl H
      · replace H := H.2 c16
        refine wp_iconst (0 : Int32) 104 dX8_partsAs_103 kiconst_0 rfl ?_
        refine wp_goto 119 dX8_partsAs_104 rfl ?_
        exact wp_reti dX8_partsAs_119 rfl H
    · replace H := H.2 c20
      show Wp _ _ _ _ _ _ _ _
      refine wp_aload_n 121 dX8_partsAs_120 rfl rfl ?_
      refine wp_iload_n 122 dX8_partsAs_121 rfl rfl ?_
      refine wp_cS (d - 1) 1 [.int a1] [.ref 88] 125 dX8_partsAs_122 rfl (lk_X8_256 rfl) (by omega) rfl rfl (Nat.le_of_ble_eq_true rfl) (sp_X8_above (by omega)  ?_)
      refine wp_iload_n 126 dX8_partsAs_125 rfl rfl ?_
      refine wp_cV (d - 1) 2 [.int (mAb a1), .int a2] [] 129 dX8_partsAs_126 rfl (lk_X8_278 rfl) (by omega) kd_88 rfl rfl rfl (Nat.le_of_ble_eq_true rfl) (H.mono (fun x21 h22 H => ?_))
      exact wp_reti dX8_partsAs_129 rfl H

theorem cg_X8_partsAs {G : kG} {d : Nat} {Q : Int32 → kM → Prop}  {a1 : Int32} {a2 : Int32} {h : kM} (hd : 3 ≤ d)  (H :
    ((a1 = (0 : Int32) →
      (¬ 30 ≤ h 88 17 → vp_in (h 88 17) 30) ∧
      ∀ h2 : kM, h2 = mBeg h (13 : Int32) →
      (okI (h2 88 18) 1) ∧
      ((¬ ((mIt (h2 89) (h2 88 18) 1) - (h2 88 18)) = 0 →
        ∀ h5 : kM, h5 = kU h2 88 19 (0 : Int32) →
        ((¬ ((mIt (h2 89) (h2 88 18) 1) - (h2 88 18)) = (-1 : Int32) →
          (¬ ((mIt (h2 89) (h2 88 18) 1) - (h2 88 18)) = 0) ∧
          Q (a2 / ((mIt (h2 89) (h2 88 18) 1) - (h2 88 18))) h5
        ) ∧ (((mIt (h2 89) (h2 88 18) 1) - (h2 88 18)) = (-1 : Int32) →
          Q (-a2) h5
        ))
      ) ∧ (((mIt (h2 89) (h2 88 18) 1) - (h2 88 18)) = 0 →
        ∀ h9 : kM, h9 = kU h2 88 19 (1 : Int32) →
        Q (0 : Int32) h9
      ))
    ) ∧ (¬ a1 = (0 : Int32) →
    ((a1 = (1 : Int32) →
      (¬ 30 ≤ h 88 17 → vp_in (h 88 17) 30) ∧
      ∀ h13 : kM, h13 = mBeg h (21 : Int32) →
      Cal G (d - 1) m_X8_partsAs [.ref 88, .int (mAb (1 : Int32)), .int a2] h13 (fun x14 h15 =>
        (((h15 88 19) = 0 →
          (okI (h15 88 18) 0) ∧
          Cal G (d - 1) m_X8_turnsAs [.ref 88, .int (mIt (h15 89) (h15 88 18) 0), .int (1 : Int32)] h15 (fun x18 h19 =>
            Q (x14 + x18) h19
          )
        ) ∧ (¬ ((h15 88 19) = 0) →
          Q (0 : Int32) h15
        ))
      )
    ) ∧ (¬ a1 = (1 : Int32) →
      Cal G (d - 1) m_X8_partsAs [.ref 88, .int (mAb a1), .int a2] h (fun x21 h22 =>
        Q x21 h22
      )
    ))))) : Cal G d m_X8_partsAs [.ref 88, .int a1, .int a2] h Q :=
  Cal.of [.ref 88, .int a1, .int a2, .null, .null] (by decide +kernel) (Nat.le_of_ble_eq_true rfl) rfl (sg_X8_partsAs_0 hd  H)

theorem dB0 (hd : 2 ≤ d) {t : Nat} {x M K : Int32} {L : List Int32} (hp : kMp t M K h) (hT : kTm L h) (hl : L.length + 1 ≤ 30) (k : ∀ h1, kTm (L ++ [10]) h1 → kMf h h1 → Q (x + K) h1) : Cal G d m_X8_blowsAs [.ref 88, .int (nI 0), .int x] h Q := by
  refine cg_X8_blowsAs (by omega) ⟨fun _ => ?_, fun z => absurd rfl z⟩
  obtain ⟨b1, b2⟩ := begM (b := 10) hT (by omega)
  refine ⟨b1, fun h6 e6 => ?_⟩
  obtain ⟨T6, f6⟩ := b2 h6 e6
  have p6 := hp.f f6
  rw [p6.1]
  exact k h6 T6 f6
theorem dB2 (hd : 3 ≤ d) {t : Nat} {x M K : Int32} {L : List Int32} (hp : kMp t M K h) (hT : kTm L h) (hl : L.length + 1 ≤ 30) (k : ∀ h1, kTm (L ++ [10]) h1 → kMf h h1 → Q (x + K) h1) : Cal G d m_X8_blowsAs [.ref 88, .int (nI 2), .int x] h Q := by
  refine cg_X8_blowsAs (by omega) ⟨fun e => absurd e (by decide), fun _ => ⟨fun e => absurd e (by decide), fun _ => ⟨fun e => absurd e (by decide), fun _ => ⟨fun e => absurd e (by decide), fun _ => ?_⟩⟩⟩⟩
  rw [show mAb (nI 2) = nI 0 by decide]
  exact dB0 (d := d - 1) (by omega) hp hT hl k
theorem dB3 (hd : 3 ≤ d) {t : Nat} {x M K : Int32} {L : List Int32} (hp : kMp t M K h) (hT : kTm L h) (hl : L.length + 1 ≤ 30) (k : ∀ h1, kTm (L ++ [10]) h1 → kMf h h1 → Q (x + K) h1) : Cal G d m_X8_blowsAs [.ref 88, .int (nI 3), .int x] h Q := by
  refine cg_X8_blowsAs (by omega) ⟨fun e => absurd e (by decide), fun _ => ⟨fun e => absurd e (by decide), fun _ => ⟨fun e => absurd e (by decide), fun _ => ⟨fun e => absurd e (by decide), fun _ => ?_⟩⟩⟩⟩
  rw [show mAb (nI 3) = nI 0 by decide]
  exact dB0 (d := d - 1) (by omega) hp hT hl k
theorem dB5 (hd : 4 ≤ d) {t : Nat} {x M K : Int32} {L : List Int32} (hp : kMp t M K h) (hT : kTm L h) (hl : L.length + 1 ≤ 30) (k : ∀ h1, kTm (L ++ [10]) h1 → kMf h h1 → Q (x + K) h1) : Cal G d m_X8_blowsAs [.ref 88, .int (nI 5), .int x] h Q := by
  refine cg_X8_blowsAs (by omega) ⟨fun e => absurd e (by decide), fun _ => ⟨fun e => absurd e (by decide), fun _ => ⟨fun e => absurd e (by decide), fun _ => ⟨fun e => absurd e (by decide), fun _ => ?_⟩⟩⟩⟩
  rw [show mAb (nI 5) = nI 2 by decide]
  exact dB2 (d := d - 1) (by omega) hp hT hl k
theorem dB1 (hd : 3 ≤ d) {t : Nat} {x M K : Int32} {L : List Int32} (hp : kMp t M K h) (hT : kTm L h) (hl : L.length + 2 ≤ 30) (k : ∀ h1, kTm (L ++ [20, 10]) h1 → kMf h h1 → Q (x + K - 9) h1) : Cal G d m_X8_blowsAs [.ref 88, .int (nI 1), .int x] h Q := by
  refine cg_X8_blowsAs (by omega) ⟨fun e => absurd e (by decide), fun _ => ⟨fun _ => ?_, fun z => absurd rfl z⟩⟩
  obtain ⟨b1, b2⟩ := begM (b := 20) hT (by omega)
  refine ⟨b1, fun h6 e6 => ?_⟩
  obtain ⟨T6, f6⟩ := b2 h6 e6
  have p6 := hp.f f6
  rw [show mAb 1 = nI 0 by decide]
  refine dB0 (d := d - 1) (by omega) p6 T6 (by rw [len_c]; omega) (fun h1 T1 f1 => ?_)
  rw [app_c] at T1
  exact k h1 T1 (f6.tr f1)
theorem dB4 (hd : 4 ≤ d) {t : Nat} {x M K : Int32} {L : List Int32} (hp : kMp t M K h) (hT : kTm L h) (hl : L.length + 3 ≤ 30) (k : ∀ h1, kTm (L ++ [50, 20, 10]) h1 → kMf h h1 → Q ((x + K - 9) * 3) h1) : Cal G d m_X8_blowsAs [.ref 88, .int (nI 4), .int x] h Q := by
  refine cg_X8_blowsAs (by omega) ⟨fun e => absurd e (by decide), fun _ => ⟨fun e => absurd e (by decide), fun _ => ⟨fun _ => ?_, fun z => absurd rfl z⟩⟩⟩
  obtain ⟨b1, b2⟩ := begM (b := 50) hT (by omega)
  refine ⟨b1, fun h6 e6 => ?_⟩
  obtain ⟨T6, f6⟩ := b2 h6 e6
  have p6 := hp.f f6
  rw [show mAb 4 = nI 1 by decide]
  refine dB1 (d := d - 1) (by omega) p6 T6 (by rw [len_c]; omega) (fun h1 T1 f1 => ?_)
  rw [app_c] at T1
  exact k h1 T1 (f6.tr f1)
theorem dB6 (hd : 2 ≤ d) {t : Nat} {x M K : Int32} {L : List Int32} (hp : kMp t M K h) (hT : kTm L h) (hl : L.length + 1 ≤ 30) (k : ∀ h1, kTm (L ++ [70]) h1 → kMf h h1 → Q (6) h1) : Cal G d m_X8_blowsAs [.ref 88, .int (nI 6), .int x] h Q := by
  refine cg_X8_blowsAs (by omega) ⟨fun e => absurd e (by decide), fun _ => ⟨fun e => absurd e (by decide), fun _ => ⟨fun e => absurd e (by decide), fun _ => ⟨fun _ => ?_, fun z => absurd rfl z⟩⟩⟩⟩
  obtain ⟨b1, b2⟩ := begM (b := 70) hT (by omega)
  refine ⟨b1, fun h6 e6 => ?_⟩
  obtain ⟨T6, f6⟩ := b2 h6 e6
  have p6 := hp.f f6
  exact k h6 T6 f6
theorem dB (hd : 4 ≤ d) {c : Nat} (hc : c < 7) {t : Nat} {x M K : Int32} {L : List Int32} (hp : kMp t M K h) (hT : kTm L h) (hl : L.length + 3 ≤ 30) (k : ∀ h1, kTm (L ++ (pB K c x).2) h1 → kMf h h1 → Q (pB K c x).1 h1) : Cal G d m_X8_blowsAs [.ref 88, .int (nI c), .int x] h Q := by
  rcases (show c = 0 ∨ c = 1 ∨ c = 2 ∨ c = 3 ∨ c = 4 ∨ c = 5 ∨ c = 6 by omega) with rfl | rfl | rfl | rfl | rfl | rfl | rfl
  · exact dB0 (by omega) hp hT (by omega) k
  · exact dB1 (by omega) hp hT (by omega) k
  · exact dB2 (by omega) hp hT (by omega) k
  · exact dB3 (by omega) hp hT (by omega) k
  · exact dB4 (by omega) hp hT (by omega) k
  · exact dB5 (by omega) hp hT (by omega) k
  · exact dB6 (by omega) hp hT (by omega) k
theorem dT0 (hd : 5 ≤ d) {t : Nat} {x M K : Int32} {L : List Int32} (ht : t < 7) (hp : kMp t M K h) (hT : kTm L h) (hl : L.length + 4 ≤ 30) (k : ∀ h1, kTm (L ++ (pT0 K t x).2) h1 → kMf h h1 → Q ((pT0 K t x).1) h1) : Cal G d m_X8_turnsAs [.ref 88, .int (nI 0), .int x] h Q := by
  refine cg_X8_turnsAs (by omega) ⟨fun _ => ?_, fun z => absurd rfl z⟩
  obtain ⟨b1, b2⟩ := begM (b := 11) hT (by omega)
  refine ⟨b1, fun h6 e6 => ?_⟩
  obtain ⟨T6, f6⟩ := b2 h6 e6
  have p6 := hp.f f6
  rw [p6.1, p6.2.1]
  refine ⟨p6.2.2.2.1, dB (d := d - 1) (by omega) ht p6 T6 (by rw [len_c]; omega) (fun h1 T1 f1 => ?_)⟩
  rw [app_c] at T1
  exact k h1 T1 (f6.tr f1)
theorem dT1 (hd : 6 ≤ d) {t : Nat} {x M K : Int32} {L : List Int32} (ht : t < 7) (hp : kMp t M K h) (hT : kTm L h) (hl : L.length + 4 ≤ 30) (k : ∀ h1, kTm (L ++ (pT0 K t x).2) h1 → kMf h h1 → Q ((pT0 K t x).1) h1) : Cal G d m_X8_turnsAs [.ref 88, .int (nI 1), .int x] h Q := by
  refine cg_X8_turnsAs (by omega) ⟨fun e => absurd e (by decide), fun _ => ⟨fun e => absurd e (by decide), fun _ => ⟨fun e => absurd e (by decide), fun _ => ⟨fun e => absurd e (by decide), fun _ => ?_⟩⟩⟩⟩
  rw [show mAb (nI 1) = nI 0 by decide]
  exact dT0 (d := d - 1) (by omega) ht hp hT hl k
theorem dT3 (hd : 6 ≤ d) {t : Nat} {x M K : Int32} {L : List Int32} (ht : t < 7) (hp : kMp t M K h) (hT : kTm L h) (hl : L.length + 4 ≤ 30) (k : ∀ h1, kTm (L ++ (pT0 K t x).2) h1 → kMf h h1 → Q ((pT0 K t x).1) h1) : Cal G d m_X8_turnsAs [.ref 88, .int (nI 3), .int x] h Q := by
  refine cg_X8_turnsAs (by omega) ⟨fun e => absurd e (by decide), fun _ => ⟨fun e => absurd e (by decide), fun _ => ⟨fun e => absurd e (by decide), fun _ => ⟨fun e => absurd e (by decide), fun _ => ?_⟩⟩⟩⟩
  rw [show mAb (nI 3) = nI 0 by decide]
  exact dT0 (d := d - 1) (by omega) ht hp hT hl k
theorem dT4 (hd : 7 ≤ d) {t : Nat} {x M K : Int32} {L : List Int32} (ht : t < 7) (hp : kMp t M K h) (hT : kTm L h) (hl : L.length + 4 ≤ 30) (k : ∀ h1, kTm (L ++ (pT0 K t x).2) h1 → kMf h h1 → Q ((pT0 K t x).1) h1) : Cal G d m_X8_turnsAs [.ref 88, .int (nI 4), .int x] h Q := by
  refine cg_X8_turnsAs (by omega) ⟨fun e => absurd e (by decide), fun _ => ⟨fun e => absurd e (by decide), fun _ => ⟨fun e => absurd e (by decide), fun _ => ⟨fun e => absurd e (by decide), fun _ => ?_⟩⟩⟩⟩
  rw [show mAb (nI 4) = nI 1 by decide]
  exact dT1 (d := d - 1) (by omega) ht hp hT hl k
theorem dT2 (hd : 6 ≤ d) {t : Nat} {x M K : Int32} {L : List Int32} (ht : t < 7) (hp : kMp t M K h) (hT : kTm L h) (hl : L.length + 5 ≤ 30) (k : ∀ h1, kTm (L ++ (30 :: (pT0 K t x).2)) h1 → kMf h h1 → Q (0 - (pT0 K t x).1) h1) : Cal G d m_X8_turnsAs [.ref 88, .int (nI 2), .int x] h Q := by
  refine cg_X8_turnsAs (by omega) ⟨fun e => absurd e (by decide), fun _ => ⟨fun _ => ?_, fun z => absurd rfl z⟩⟩
  obtain ⟨b1, b2⟩ := begM (b := 30) hT (by omega)
  refine ⟨b1, fun h6 e6 => ?_⟩
  obtain ⟨T6, f6⟩ := b2 h6 e6
  have p6 := hp.f f6
  rw [show mAb 2 = nI 0 by decide]
  refine dT0 (d := d - 1) (by omega) ht p6 T6 (by rw [len_c]; omega) (fun h1 T1 f1 => ?_)
  rw [app_c] at T1
  exact k h1 T1 (f6.tr f1)
theorem dT5 (hd : 7 ≤ d) {t : Nat} {x M K : Int32} {L : List Int32} (ht : t < 7) (hp : kMp t M K h) (hT : kTm L h) (hl : L.length + 6 ≤ 30) (k : ∀ h1, kTm (L ++ (60 :: 30 :: (pT0 K t (x + 1)).2)) h1 → kMf h h1 → Q (0 - (pT0 K t (x + 1)).1) h1) : Cal G d m_X8_turnsAs [.ref 88, .int (nI 5), .int x] h Q := by
  refine cg_X8_turnsAs (by omega) ⟨fun e => absurd e (by decide), fun _ => ⟨fun e => absurd e (by decide), fun _ => ⟨fun _ => ?_, fun z => absurd rfl z⟩⟩⟩
  obtain ⟨b1, b2⟩ := begM (b := 60) hT (by omega)
  refine ⟨b1, fun h6 e6 => ?_⟩
  obtain ⟨T6, f6⟩ := b2 h6 e6
  have p6 := hp.f f6
  rw [show mAb 5 = nI 2 by decide]
  refine dT2 (d := d - 1) (by omega) ht p6 T6 (by rw [len_c]; omega) (fun h1 T1 f1 => ?_)
  rw [app_c] at T1
  exact k h1 T1 (f6.tr f1)
theorem dT6 (hd : 6 ≤ d) {t : Nat} {x M K : Int32} {L : List Int32} (ht : t < 7) (hp : kMp t M K h) (hT : kTm L h) (hl : L.length + 5 ≤ 30) (k : ∀ h1, kTm (L ++ (71 :: (pT0 K t x).2)) h1 → kMf h h1 → Q ((pT0 K t x).1 + M) h1) : Cal G d m_X8_turnsAs [.ref 88, .int (nI 6), .int x] h Q := by
  refine cg_X8_turnsAs (by omega) ⟨fun e => absurd e (by decide), fun _ => ⟨fun e => absurd e (by decide), fun _ => ⟨fun e => absurd e (by decide), fun _ => ⟨fun _ => ?_, fun z => absurd rfl z⟩⟩⟩⟩
  obtain ⟨b1, b2⟩ := begM (b := 71) hT (by omega)
  refine ⟨b1, fun h6 e6 => ?_⟩
  obtain ⟨T6, f6⟩ := b2 h6 e6
  have p6 := hp.f f6
  rw [show mAb 6 = nI 0 by decide]
  refine dT0 (d := d - 1) (by omega) ht p6 T6 (by rw [len_c]; omega) (fun h1 T1 f1 => ?_)
  rw [app_c] at T1
  have p1 := p6.f f1
  rw [p1.1, p1.2.2.1]
  exact ⟨p1.2.2.2.2, k h1 T1 (f6.tr f1)⟩
theorem dT (hd : 7 ≤ d) {c : Nat} (hc : c < 7) {t : Nat} {x M K : Int32} {L : List Int32} (ht : t < 7) (hp : kMp t M K h) (hT : kTm L h) (hl : L.length + 6 ≤ 30) (k : ∀ h1, kTm (L ++ (pT K M t c x).2) h1 → kMf h h1 → Q (pT K M t c x).1 h1) : Cal G d m_X8_turnsAs [.ref 88, .int (nI c), .int x] h Q := by
  rcases (show c = 0 ∨ c = 1 ∨ c = 2 ∨ c = 3 ∨ c = 4 ∨ c = 5 ∨ c = 6 by omega) with rfl | rfl | rfl | rfl | rfl | rfl | rfl
  · exact dT0 (by omega) ht hp hT (by omega) k
  · exact dT1 (by omega) ht hp hT (by omega) k
  · exact dT2 (by omega) ht hp hT (by omega) k
  · exact dT3 (by omega) ht hp hT (by omega) k
  · exact dT4 (by omega) ht hp hT (by omega) k
  · exact dT5 (by omega) ht hp hT (by omega) k
  · exact dT6 (by omega) ht hp hT (by omega) k
theorem dI0 (hd : 8 ≤ d) {t : Nat} {x M K : Int32} {L : List Int32} (ht : t < 7) (hp : kMp t M K h) (hT : kTm L h) (hl : L.length + 7 ≤ 30) (k : ∀ h1, kTm (L ++ (pI0 K M t x).2) h1 → kMf h h1 → Q ((pI0 K M t x).1) h1) : Cal G d m_X8_tiesAs [.ref 88, .int (nI 0), .int x] h Q := by
  refine cg_X8_tiesAs (by omega) ⟨fun _ => ?_, fun z => absurd rfl z⟩
  obtain ⟨b1, b2⟩ := begM (b := 12) hT (by omega)
  refine ⟨b1, fun h6 e6 => ?_⟩
  obtain ⟨T6, f6⟩ := b2 h6 e6
  have p6 := hp.f f6
  rw [p6.1, p6.2.1]
  refine ⟨p6.2.2.2.1, dT (d := d - 1) (by omega) ht ht p6 T6 (by rw [len_c]; omega) (fun h1 T1 f1 => ?_)⟩
  rw [app_c] at T1
  have p1 := p6.f f1
  rw [p1.1, p1.2.2.1]
  exact ⟨p1.2.2.2.2, k h1 T1 (f6.tr f1)⟩
theorem dI1 (hd : 9 ≤ d) {t : Nat} {x M K : Int32} {L : List Int32} (ht : t < 7) (hp : kMp t M K h) (hT : kTm L h) (hl : L.length + 7 ≤ 30) (k : ∀ h1, kTm (L ++ (pI0 K M t x).2) h1 → kMf h h1 → Q ((pI0 K M t x).1) h1) : Cal G d m_X8_tiesAs [.ref 88, .int (nI 1), .int x] h Q := by
  refine cg_X8_tiesAs (by omega) ⟨fun e => absurd e (by decide), fun _ => ⟨fun e => absurd e (by decide), fun _ => ⟨fun e => absurd e (by decide), fun _ => ?_⟩⟩⟩
  rw [show mAb (nI 1) = nI 0 by decide]
  exact dI0 (d := d - 1) (by omega) ht hp hT hl k
theorem dI2 (hd : 9 ≤ d) {t : Nat} {x M K : Int32} {L : List Int32} (ht : t < 7) (hp : kMp t M K h) (hT : kTm L h) (hl : L.length + 7 ≤ 30) (k : ∀ h1, kTm (L ++ (pI0 K M t x).2) h1 → kMf h h1 → Q ((pI0 K M t x).1) h1) : Cal G d m_X8_tiesAs [.ref 88, .int (nI 2), .int x] h Q := by
  refine cg_X8_tiesAs (by omega) ⟨fun e => absurd e (by decide), fun _ => ⟨fun e => absurd e (by decide), fun _ => ⟨fun e => absurd e (by decide), fun _ => ?_⟩⟩⟩
  rw [show mAb (nI 2) = nI 0 by decide]
  exact dI0 (d := d - 1) (by omega) ht hp hT hl k
theorem dI6 (hd : 9 ≤ d) {t : Nat} {x M K : Int32} {L : List Int32} (ht : t < 7) (hp : kMp t M K h) (hT : kTm L h) (hl : L.length + 7 ≤ 30) (k : ∀ h1, kTm (L ++ (pI0 K M t x).2) h1 → kMf h h1 → Q ((pI0 K M t x).1) h1) : Cal G d m_X8_tiesAs [.ref 88, .int (nI 6), .int x] h Q := by
  refine cg_X8_tiesAs (by omega) ⟨fun e => absurd e (by decide), fun _ => ⟨fun e => absurd e (by decide), fun _ => ⟨fun e => absurd e (by decide), fun _ => ?_⟩⟩⟩
  rw [show mAb (nI 6) = nI 0 by decide]
  exact dI0 (d := d - 1) (by omega) ht hp hT hl k
theorem dI5 (hd : 10 ≤ d) {t : Nat} {x M K : Int32} {L : List Int32} (ht : t < 7) (hp : kMp t M K h) (hT : kTm L h) (hl : L.length + 7 ≤ 30) (k : ∀ h1, kTm (L ++ (pI0 K M t x).2) h1 → kMf h h1 → Q ((pI0 K M t x).1) h1) : Cal G d m_X8_tiesAs [.ref 88, .int (nI 5), .int x] h Q := by
  refine cg_X8_tiesAs (by omega) ⟨fun e => absurd e (by decide), fun _ => ⟨fun e => absurd e (by decide), fun _ => ⟨fun e => absurd e (by decide), fun _ => ?_⟩⟩⟩
  rw [show mAb (nI 5) = nI 2 by decide]
  exact dI2 (d := d - 1) (by omega) ht hp hT hl k
theorem dI3 (hd : 9 ≤ d) {t : Nat} {x M K : Int32} {L : List Int32} (ht : t < 7) (hp : kMp t M K h) (hT : kTm L h) (hl : L.length + 8 ≤ 30) (k : ∀ h1, kTm (L ++ (40 :: (pI0 K M t (x / 2)).2)) h1 → kMf h h1 → Q ((pI0 K M t (x / 2)).1) h1) : Cal G d m_X8_tiesAs [.ref 88, .int (nI 3), .int x] h Q := by
  refine cg_X8_tiesAs (by omega) ⟨fun e => absurd e (by decide), fun _ => ⟨fun _ => ?_, fun z => absurd rfl z⟩⟩
  obtain ⟨b1, b2⟩ := begM (b := 40) hT (by omega)
  refine ⟨b1, fun h6 e6 => ?_⟩
  obtain ⟨T6, f6⟩ := b2 h6 e6
  have p6 := hp.f f6
  rw [show mAb 3 = nI 0 by decide]
  refine dI0 (d := d - 1) (by omega) ht p6 T6 (by rw [len_c]; omega) (fun h1 T1 f1 => ?_)
  rw [app_c] at T1
  exact k h1 T1 (f6.tr f1)
theorem dI4 (hd : 10 ≤ d) {t : Nat} {x M K : Int32} {L : List Int32} (ht : t < 7) (hp : kMp t M K h) (hT : kTm L h) (hl : L.length + 8 ≤ 30) (k : ∀ h1, kTm (L ++ (51 :: (pI0 K M t x).2)) h1 → kMf h h1 → Q ((pI0 K M t x).1 ^^^ K) h1) : Cal G d m_X8_tiesAs [.ref 88, .int (nI 4), .int x] h Q := by
  refine cg_X8_tiesAs (by omega) ⟨fun e => absurd e (by decide), fun _ => ⟨fun e => absurd e (by decide), fun _ => ⟨fun _ => ?_, fun z => absurd rfl z⟩⟩⟩
  obtain ⟨b1, b2⟩ := begM (b := 51) hT (by omega)
  refine ⟨b1, fun h6 e6 => ?_⟩
  obtain ⟨T6, f6⟩ := b2 h6 e6
  have p6 := hp.f f6
  rw [show mAb 4 = nI 1 by decide]
  refine dI1 (d := d - 1) (by omega) ht p6 T6 (by rw [len_c]; omega) (fun h1 T1 f1 => ?_)
  rw [app_c] at T1
  rw [(p6.f f1).1]
  exact k h1 T1 (f6.tr f1)
theorem dI (hd : 10 ≤ d) {c : Nat} (hc : c < 7) {t : Nat} {x M K : Int32} {L : List Int32} (ht : t < 7) (hp : kMp t M K h) (hT : kTm L h) (hl : L.length + 8 ≤ 30) (k : ∀ h1, kTm (L ++ (pI K M t c x).2) h1 → kMf h h1 → Q (pI K M t c x).1 h1) : Cal G d m_X8_tiesAs [.ref 88, .int (nI c), .int x] h Q := by
  rcases (show c = 0 ∨ c = 1 ∨ c = 2 ∨ c = 3 ∨ c = 4 ∨ c = 5 ∨ c = 6 by omega) with rfl | rfl | rfl | rfl | rfl | rfl | rfl
  · exact dI0 (by omega) ht hp hT (by omega) k
  · exact dI1 (by omega) ht hp hT (by omega) k
  · exact dI2 (by omega) ht hp hT (by omega) k
  · exact dI3 (by omega) ht hp hT (by omega) k
  · exact dI4 (by omega) ht hp hT (by omega) k
  · exact dI5 (by omega) ht hp hT (by omega) k
  · exact dI6 (by omega) ht hp hT (by omega) k
def kMg (h h' : kM) (x : Int32) : Prop := (∀ a, a ≠ 88 → a ≠ 97 → h' a = h a) ∧ (∀ s, s ≠ 17 → s ≠ 19 → h' 88 s = h 88 s) ∧ h' 88 19 = x
theorem kMp.g {t : Nat} {M K x : Int32} {h h1 : kM} (p : kMp t M K h) (f : kMg h h1 x) : kMp t M K h1 := by
  obtain ⟨p1, p2, p3, p4, p5⟩ := p
  exact ⟨by rw [f.2.1 18 (by decide) (by decide), p1], by rw [f.1 89 (by decide) (by decide), p2], by rw [f.1 89 (by decide) (by decide), p3], p4, p5⟩
theorem kMg.fg {h h1 h2 : kM} {x : Int32} (a : kMf h h1) (b : kMg h1 h2 x) : kMg h h2 x := ⟨fun c x y => (b.1 c x y).trans (a.1 c x y), fun s x y => (b.2.1 s x y).trans (a.2 s x), b.2.2⟩
theorem kMg.gf {h h1 h2 : kM} {x : Int32} (a : kMg h h1 x) (b : kMf h1 h2) : kMg h h2 x := ⟨fun c x y => (b.1 c x y).trans (a.1 c x y), fun s x y => (b.2 s x).trans (a.2.1 s x y), by rw [b.2 19 (by decide), a.2.2]⟩
theorem kTm.u {L : List Int32} {h h1 : kM} {x : Int32} (T : kTm L h) (e : h1 = kU h 88 19 x) : kTm L h1 ∧ kMg h h1 x :=
  ⟨⟨by rw [e, kU_eq, pk_un (by decide)]; exact T.1, fun i hi => by rw [e, kU_ne (by decide)]; exact T.2 i hi⟩, fun a a1 _ => by rw [e, kU_ne a1], fun s _ s2 => by rw [e, kU_eq, pk_un s2], by rw [e, kU_eq, pk_us]⟩
theorem dP0 (hd : 3 ≤ d) {t : Nat} {x M K : Int32} {L : List Int32} (ht : t < 7) (hp : kMp t M K h) (hT : kTm L h) (hl : L.length + 1 ≤ 30) (k0 : M - K = 0 → ∀ h1, kTm (L ++ [13]) h1 → kMg h h1 1 → Q 0 h1) (k : ¬ M - K = 0 → ∀ h1, kTm (L ++ [13]) h1 → kMg h h1 0 → Q (x / (M - K)) h1) : Cal G d m_X8_partsAs [.ref 88, .int (nI 0), .int x] h Q := by
  refine cg_X8_partsAs (by omega) ⟨fun _ => ?_, fun z => absurd rfl z⟩
  obtain ⟨b1, b2⟩ := begM (b := 13) hT (by omega)
  refine ⟨b1, fun h6 e6 => ?_⟩
  obtain ⟨T6, f6⟩ := b2 h6 e6
  have p6 := hp.f f6
  rw [p6.1, p6.2.2.1]
  refine ⟨p6.2.2.2.2, fun z h5 e5 => ?_, fun z h9 e9 => ?_⟩
  · obtain ⟨T5, g5⟩ := T6.u e5
    refine ⟨fun _ => ⟨z, k z h5 T5 (kMg.fg f6 g5)⟩, fun y => ?_⟩
    have r := k z h5 T5 (kMg.fg f6 g5)
    rw [y, div_m1] at r
    exact r
  · obtain ⟨T5, g5⟩ := T6.u e9
    exact k0 z h9 T5 (kMg.fg f6 g5)
theorem dP2 (hd : 4 ≤ d) {t : Nat} {x M K : Int32} {L : List Int32} (ht : t < 7) (hp : kMp t M K h) (hT : kTm L h) (hl : L.length + 1 ≤ 30) (k0 : M - K = 0 → ∀ h1, kTm (L ++ [13]) h1 → kMg h h1 1 → Q 0 h1) (k : ¬ M - K = 0 → ∀ h1, kTm (L ++ [13]) h1 → kMg h h1 0 → Q (x / (M - K)) h1) : Cal G d m_X8_partsAs [.ref 88, .int (nI 2), .int x] h Q := by
  refine cg_X8_partsAs (by omega) ⟨fun e => absurd e (by decide), fun _ => ⟨fun e => absurd e (by decide), fun _ => ?_⟩⟩
  rw [show mAb (nI 2) = nI 0 by decide]
  exact dP0 (d := d - 1) (by omega) ht hp hT hl k0 k
theorem dP3 (hd : 4 ≤ d) {t : Nat} {x M K : Int32} {L : List Int32} (ht : t < 7) (hp : kMp t M K h) (hT : kTm L h) (hl : L.length + 1 ≤ 30) (k0 : M - K = 0 → ∀ h1, kTm (L ++ [13]) h1 → kMg h h1 1 → Q 0 h1) (k : ¬ M - K = 0 → ∀ h1, kTm (L ++ [13]) h1 → kMg h h1 0 → Q (x / (M - K)) h1) : Cal G d m_X8_partsAs [.ref 88, .int (nI 3), .int x] h Q := by
  refine cg_X8_partsAs (by omega) ⟨fun e => absurd e (by decide), fun _ => ⟨fun e => absurd e (by decide), fun _ => ?_⟩⟩
  rw [show mAb (nI 3) = nI 0 by decide]
  exact dP0 (d := d - 1) (by omega) ht hp hT hl k0 k
theorem dP6 (hd : 4 ≤ d) {t : Nat} {x M K : Int32} {L : List Int32} (ht : t < 7) (hp : kMp t M K h) (hT : kTm L h) (hl : L.length + 1 ≤ 30) (k0 : M - K = 0 → ∀ h1, kTm (L ++ [13]) h1 → kMg h h1 1 → Q 0 h1) (k : ¬ M - K = 0 → ∀ h1, kTm (L ++ [13]) h1 → kMg h h1 0 → Q (x / (M - K)) h1) : Cal G d m_X8_partsAs [.ref 88, .int (nI 6), .int x] h Q := by
  refine cg_X8_partsAs (by omega) ⟨fun e => absurd e (by decide), fun _ => ⟨fun e => absurd e (by decide), fun _ => ?_⟩⟩
  rw [show mAb (nI 6) = nI 0 by decide]
  exact dP0 (d := d - 1) (by omega) ht hp hT hl k0 k
theorem dP5 (hd : 5 ≤ d) {t : Nat} {x M K : Int32} {L : List Int32} (ht : t < 7) (hp : kMp t M K h) (hT : kTm L h) (hl : L.length + 1 ≤ 30) (k0 : M - K = 0 → ∀ h1, kTm (L ++ [13]) h1 → kMg h h1 1 → Q 0 h1) (k : ¬ M - K = 0 → ∀ h1, kTm (L ++ [13]) h1 → kMg h h1 0 → Q (x / (M - K)) h1) : Cal G d m_X8_partsAs [.ref 88, .int (nI 5), .int x] h Q := by
  refine cg_X8_partsAs (by omega) ⟨fun e => absurd e (by decide), fun _ => ⟨fun e => absurd e (by decide), fun _ => ?_⟩⟩
  rw [show mAb (nI 5) = nI 2 by decide]
  exact dP2 (d := d - 1) (by omega) ht hp hT hl k0 k
theorem dP1 (hd : 8 ≤ d) {t : Nat} {x M K : Int32} {L : List Int32} (ht : t < 7) (hp : kMp t M K h) (hT : kTm L h) (hl : L.length + 8 ≤ 30) (k0 : M - K = 0 → ∀ h1, kTm (L ++ [21, 13]) h1 → kMg h h1 1 → Q 0 h1) (k : ¬ M - K = 0 → ∀ h1, kTm (L ++ (21 :: 13 :: (pT K M t t 1).2)) h1 → kMg h h1 0 → Q (x / (M - K) + (pT K M t t 1).1) h1) : Cal G d m_X8_partsAs [.ref 88, .int (nI 1), .int x] h Q := by
  refine cg_X8_partsAs (by omega) ⟨fun e => absurd e (by decide), fun _ => ⟨fun _ => ?_, fun z => absurd rfl z⟩⟩
  obtain ⟨b1, b2⟩ := begM (b := 21) hT (by omega)
  refine ⟨b1, fun h6 e6 => ?_⟩
  obtain ⟨T6, f6⟩ := b2 h6 e6
  have p6 := hp.f f6
  rw [show mAb 1 = nI 0 by decide]
  refine dP0 (d := d - 1) (by omega) ht p6 T6 (by rw [len_c]; omega) (fun z h1 T1 f1 => ?_) (fun z h1 T1 f1 => ?_)
  · rw [app_c] at T1
    exact ⟨fun y => absurd (f1.2.2.symm.trans y) (by decide), fun _ => k0 z h1 T1 (kMg.fg f6 f1)⟩
  · rw [app_c] at T1
    have p1 := p6.g f1
    have hl2 : (L ++ [21, 13]).length = L.length + 2 := by rw [List.length_append]; rfl
    refine ⟨fun _ => ?_, fun y => absurd f1.2.2 y⟩
    rw [p1.1, p1.2.1]
    refine ⟨p1.2.2.2.1, dT (d := d - 1) (by omega) ht ht p1 T1 (by rw [hl2]; omega) (fun h2 T2 f2 => ?_)⟩
    rw [List.append_assoc] at T2
    exact k z h2 T2 (kMg.gf (kMg.fg f6 f1) f2)
theorem dP4 (hd : 9 ≤ d) {t : Nat} {x M K : Int32} {L : List Int32} (ht : t < 7) (hp : kMp t M K h) (hT : kTm L h) (hl : L.length + 8 ≤ 30) (k0 : M - K = 0 → ∀ h1, kTm (L ++ [21, 13]) h1 → kMg h h1 1 → Q 0 h1) (k : ¬ M - K = 0 → ∀ h1, kTm (L ++ (21 :: 13 :: (pT K M t t 1).2)) h1 → kMg h h1 0 → Q (x / (M - K) + (pT K M t t 1).1) h1) : Cal G d m_X8_partsAs [.ref 88, .int (nI 4), .int x] h Q := by
  refine cg_X8_partsAs (by omega) ⟨fun e => absurd e (by decide), fun _ => ⟨fun e => absurd e (by decide), fun _ => ?_⟩⟩
  rw [show mAb (nI 4) = nI 1 by decide]
  exact dP1 (d := d - 1) (by omega) ht hp hT hl k0 k
theorem dP (hd : 9 ≤ d) {c : Nat} (hc : c < 7) {t : Nat} {x M K : Int32} {L : List Int32} (ht : t < 7) (hp : kMp t M K h) (hT : kTm L h) (hl : L.length + 8 ≤ 30) (k0 : M - K = 0 → ∀ h1, kTm (L ++ pPl c) h1 → kMg h h1 1 → Q 0 h1) (k : ¬ M - K = 0 → ∀ h1, kTm (L ++ (pPr K M t c x).2) h1 → kMg h h1 0 → Q (pPr K M t c x).1 h1) : Cal G d m_X8_partsAs [.ref 88, .int (nI c), .int x] h Q := by
  rcases (show c = 0 ∨ c = 1 ∨ c = 2 ∨ c = 3 ∨ c = 4 ∨ c = 5 ∨ c = 6 by omega) with rfl | rfl | rfl | rfl | rfl | rfl | rfl
  · exact dP0 (by omega) ht hp hT (by omega) k0 k
  · exact dP1 (by omega) ht hp hT (by omega) k0 k
  · exact dP2 (by omega) ht hp hT (by omega) k0 k
  · exact dP3 (by omega) ht hp hT (by omega) k0 k
  · exact dP4 (by omega) ht hp hT (by omega) k0 k
  · exact dP5 (by omega) ht hp hT (by omega) k0 k
  · exact dP6 (by omega) ht hp hT (by omega) k0 k
theorem pI_l (K M : Int32) (t c : Nat) (x : Int32) : (pI K M t c x).2.length ≤ 8 := by
  have h0 : ∀ y, (pI0 K M t y).2.length ≤ 7 := fun y => by
    have := pT_l K M t t y
    show (pT K M t t y).2.length + 1 ≤ 7
    omega
  have h1 := h0 x
  have h2 := h0 (x / 2)
  unfold pI
  split
  · show (pI0 K M t (x / 2)).2.length + 1 ≤ 8
    omega
  · split
    · show (pI0 K M t x).2.length + 1 ≤ 8
      omega
    · omega
theorem pPr_l (K M : Int32) (t c : Nat) (x : Int32) : (pPr K M t c x).2.length ≤ 8 := by
  have h1 := pT_l K M t t 1
  unfold pPr
  split
  · show (pT K M t t 1).2.length + 1 + 1 ≤ 8
    omega
  · show 1 ≤ 8
    decide
theorem pPl_l (c : Nat) : (pPl c).length ≤ 8 := by
  unfold pPl
  split
  · show 2 ≤ 8
    decide
  · show 1 ≤ 8
    decide
theorem kRel.trace {h h' : kM} {L : List Int32} (hR : kRel h) (ho : ∀ a, ¬ kScr a → a ≠ 76 → a ≠ 77 → a ≠ 88 → a ≠ 97 → h' a = h a) (h4 : h' 88 4 = h 88 4) (hl : L.length ≤ 8) (tc : kTc L h') (tm : kTm L h') : kRel h' := by
  have hq : ∀ a, ¬ (a = 14 ∨ a = 17 ∨ a = 31 ∨ a = 34 ∨ (35 ≤ a ∧ a ≤ 75) ∨ a = 78 ∨ a = 91 ∨ a = 92 ∨ a = 94 ∨ a = 95 ∨ a = 96 ∨ 101 ≤ a) → a ≠ 76 → a ≠ 77 → a ≠ 88 → a ≠ 97 → h' a = h a := ho
  obtain ⟨r1, r2, r3, r4, -, r6⟩ := hR
  refine ⟨r1.congr (fun a h1 h2 => hq (1 + a) (by omega) (by omega) (by omega) (by omega) (by omega)) (hq 89 (by omega) (by omega) (by omega) (by omega) (by omega)), fun q => ?_, ?_, fun i hi => ?_, ⟨L.length, by omega, tc.1, tm.1, fun i hi => (tc.2 i hi).trans (tm.2 i hi).symm⟩, fun s hs => ?_⟩
  · rw [hq 0 (by omega) (by omega) (by omega) (by omega) (by omega)] at q
    exact (r2 q).congr (fun a h1 h2 => hq (18 + a) (by omega) (by omega) (by omega) (by omega) (by omega)) (hq 90 (by omega) (by omega) (by omega) (by omega) (by omega))
  · rw [hq 0 (by omega) (by omega) (by omega) (by omega) (by omega), h4]
    exact r3
  · rw [hq 87 (by omega) (by omega) (by omega) (by omega) (by omega), hq 93 (by omega) (by omega) (by omega) (by omega) (by omega)]
    exact r4 i hi
  · exact (r6 s hs).congr (hq _ (by omega) (by omega) (by omega) (by omega) (by omega)) (hq _ (by omega) (by omega) (by omega) (by omega) (by omega)) (by rw [hq 98 (by omega) (by omega) (by omega) (by omega) (by omega)]) (by rw [hq 99 (by omega) (by omega) (by omega) (by omega) (by omega)]) (fun i hi => by rw [hq 100 (by omega) (by omega) (by omega) (by omega) (by omega)])
theorem kRel.traceE {h h' : kM} {L : List Int32} {e : Int32} (hR : kRel h) (ho : ∀ a, ¬ kScr a → a ≠ 76 → a ≠ 77 → a ≠ 88 → a ≠ 97 → a ≠ 87 → a ≠ 93 → h' a = h a) (h4 : h' 88 4 = h 88 4) (hl : L.length ≤ 8) (tc : kTc L h') (tm : kTm L h') (c87 : h' 87 = kErr h 87 e 87) (c93 : h' 93 = kErr h 93 e 93) : kRel h' := by
  let hx : kM := fun a => if a = 87 then h 87 else if a = 93 then h 93 else h' a
  have x87 : hx 87 = h 87 := if_pos rfl
  have x93 : hx 93 = h 93 := rfl
  have xo : ∀ a, a ≠ 87 → a ≠ 93 → hx a = h' a := fun a a1 a2 => by
    show (if a = 87 then h 87 else if a = 93 then h 93 else h' a) = h' a
    rw [if_neg a1, if_neg a2]
  have rx : kRel hx := hR.trace (fun a s a1 a2 a3 a4 => by
    by_cases e1 : a = 87
    · subst e1
      exact x87
    · by_cases e2 : a = 93
      · subst e2
        exact x93
      · rw [xo a e1 e2]
        exact ho a s a1 a2 a3 a4 e1 e2) (by rw [xo 88 (by decide) (by decide)]; exact h4) hl ⟨by rw [xo 76 (by decide) (by decide)]; exact tc.1, fun i hi => by rw [xo 77 (by decide) (by decide)]; exact tc.2 i hi⟩ ⟨by rw [xo 88 (by decide) (by decide)]; exact tm.1, fun i hi => by rw [xo 97 (by decide) (by decide)]; exact tm.2 i hi⟩
  refine (rx.err e).scr (fun a ha => ?_)
  by_cases e1 : a = 87
  · subst e1
    rw [c87, kErr_ne (h := kErr hx 87 e) (c := 93) (by decide)]
    unfold kErr
    rw [kU_eq, kU_eq, x87]
  · by_cases e2 : a = 93
    · subst e2
      rw [c93]
      unfold kErr
      rw [kU_eq, kU_eq, kU_ne (by decide), x93]
    · rw [kErr_ne e2, kErr_ne e1, xo a e1 e2]
theorem sg_X5_answer_0 {G : kG} {d : Nat} {Q : Int32 → kM → Prop}  {a1 : Int32} {a2 : Int32} {a3 : Int32} {a4 : Int32} {a5 : Int32} {h : kM} (hd : 12 ≤ d)  (H :
    ∀ h1 : kM, h1 = kU h 76 3 a1 →
    ∀ h2 : kM, h2 = kU h1 76 4 a2 →
    ∀ h3 : kM, h3 = kU h2 76 5 a3 →
    ∀ h4 : kM, h4 = kU h3 76 2 (0 : Int32) →
    ∀ h5 : kM, h5 = kU h4 76 1 (0 : Int32) →
    Cal G (d - 1) m_X5_speak [.ref 76, .int a4, .int (h5 76 3), .int a5, .int (0 : Int32)] h5 (fun x6 h7 =>
      Q x6 h7
    )) : Wp G d m_X5_answer (kEo G d m_X5_answer Q) 0 [.ref 76, .int a1, .int a2, .int a3, .int a4, .int a5] [] h := by
  refine wp_aload_n 1 dX5_answer_0 rfl rfl ?_
  refine wp_iload_n 2 dX5_answer_1 rfl rfl ?_
  refine wp_putI 5 dX5_answer_2 rfl fl_X5_15 fin_5_3 kd_76 rfl ?_
  refine wp_nm (fun h1 eh1 => ?_)
  replace H := H h1 eh1
  refine wp_aload_n 6 dX5_answer_5 rfl rfl ?_
  refine wp_iload_n 7 dX5_answer_6 rfl rfl ?_
  refine wp_putI 10 dX5_answer_7 rfl fl_X5_19 fin_5_4 kd_76 rfl ?_
  refine wp_nm (fun h2 eh2 => ?_)
  replace H := H h2 eh2
  refine wp_aload_n 11 dX5_answer_10 rfl rfl ?_
  refine wp_iload_n 12 dX5_answer_11 rfl rfl ?_
  refine wp_putI 15 dX5_answer_12 rfl fl_X5_22 fin_5_5 kd_76 rfl ?_
  refine wp_nm (fun h3 eh3 => ?_)
  replace H := H h3 eh3
  refine wp_aload_n 16 dX5_answer_15 rfl rfl ?_
  refine wp_iconst (0 : Int32) 17 dX5_answer_16 kiconst_0 rfl ?_
  refine wp_putZ 20 dX5_answer_17 rfl fl_X5_25 fin_5_2 kd_76 rfl (Or.inl rfl) ?_
  refine wp_nm (fun h4 eh4 => ?_)
  replace H := H h4 eh4
  refine wp_aload_n 21 dX5_answer_20 rfl rfl ?_
  refine wp_iconst (0 : Int32) 22 dX5_answer_21 kiconst_0 rfl ?_
  refine wp_putI 25 dX5_answer_22 rfl fl_X5_29 fin_5_1 kd_76 rfl ?_
  refine wp_nm (fun h5 eh5 => ?_)
  replace H := H h5 eh5
  refine wp_aload_n 26 dX5_answer_25 rfl rfl ?_
  refine wp_iload 28 dX5_answer_26 rfl rfl ?_
  refine wp_aload_n 29 dX5_answer_28 rfl rfl ?_
  refine wp_getI 32 dX5_answer_29 rfl fl_X5_15 kd_76 rfl ?_
  refine wp_iload 34 dX5_answer_32 rfl rfl ?_
  refine wp_iconst (0 : Int32) 35 dX5_answer_34 kiconst_0 rfl ?_
  refine wp_cV (d - 1) 4 [.int a4, .int (h5 76 3), .int a5, .int (0 : Int32)] [] 38 dX5_answer_35 rfl (lk_X5_32 rfl) (by omega) kd_76 rfl rfl rfl (Nat.le_of_ble_eq_true rfl) (H.mono (fun x6 h7 H => ?_))
  exact wp_reti dX5_answer_38 rfl H

theorem cg_X5_answer {G : kG} {d : Nat} {Q : Int32 → kM → Prop}  {a1 : Int32} {a2 : Int32} {a3 : Int32} {a4 : Int32} {a5 : Int32} {h : kM} (hd : 12 ≤ d)  (H :
    ∀ h1 : kM, h1 = kU h 76 3 a1 →
    ∀ h2 : kM, h2 = kU h1 76 4 a2 →
    ∀ h3 : kM, h3 = kU h2 76 5 a3 →
    ∀ h4 : kM, h4 = kU h3 76 2 (0 : Int32) →
    ∀ h5 : kM, h5 = kU h4 76 1 (0 : Int32) →
    Cal G (d - 1) m_X5_speak [.ref 76, .int a4, .int (h5 76 3), .int a5, .int (0 : Int32)] h5 (fun x6 h7 =>
      Q x6 h7
    )) : Cal G d m_X5_answer [.ref 76, .int a1, .int a2, .int a3, .int a4, .int a5] h Q :=
  Cal.of [.ref 76, .int a1, .int a2, .int a3, .int a4, .int a5] (by decide +kernel) (Nat.le_of_ble_eq_true rfl) rfl (sg_X5_answer_0 hd  H)

theorem sg_X7_voice_0 {G : kG} {d : Nat} {Q : Int32 → kM → Prop}  {a1 : Int32} {a2 : Int32} {a3 : Int32} {a4 : Int32} {h : kM} (hd : 13 ≤ d)  (H :
    (((kb ((0 ≤ a1 ∧ a1 < h 1 12) ∧ (0 ≤ a2 ∧ a2 < 3))) = 0 →
      (vp_in (1 : Int32) 7) ∧
      ∀ h3 : kM, h3 = kErr h 87 (1 : Int32) →
      Q (-1000000000 - (1 : Int32)) h3
    ) ∧ (¬ ((kb ((0 ≤ a1 ∧ a1 < h 1 12) ∧ (0 ≤ a2 ∧ a2 < 3))) = 0) →
      ((¬ (kb (0 ≤ a3 ∧ a3 < (4 : Int32))) = 0 →
        (vp_in (((3 : Int32) * a1) + a2) 15) ∧
        (vp_in (((3 : Int32) * a1) + a2) 15) ∧
        Cal G (d - 1) m_X5_answer [.ref 76, .int (h 6 ((((3 : Int32) * a1) + a2)).toNatClampNeg), .int (h 7 ((((3 : Int32) * a1) + a2)).toNatClampNeg), .int (((3 : Int32) * a1) + a2), .int a3, .int a4] h (fun x7 h8 =>
          (((h8 76 2) = 0 →
            Q x7 h8
          ) ∧ (¬ ((h8 76 2) = 0) →
            (vp_in (6 : Int32) 7) ∧
            ∀ h11 : kM, h11 = kErr h8 87 (6 : Int32) →
            Q (-1000000000 - (6 : Int32)) h11
          ))
        )
      ) ∧ ((kb (0 ≤ a3 ∧ a3 < (4 : Int32))) = 0 →
        (vp_in (1 : Int32) 7) ∧
        ∀ h13 : kM, h13 = kErr h 87 (1 : Int32) →
        Q (-1000000000 - (1 : Int32)) h13
      ))
    ))) : Wp G d m_X7_voice (kEo G d m_X7_voice Q) 0 [.ref 0, .int a1, .int a2, .int a3, .int a4, .null, .null] [] h := by
  refine wp_aload_n 1 dX7_voice_0 rfl rfl ?_
  refine wp_iload_n 2 dX7_voice_1 rfl rfl ?_
  refine wp_iload_n 3 dX7_voice_2 rfl rfl ?_
  refine wp_cV (d - 1) 2 [.int a1, .int a2] [] 6 dX7_voice_3 rfl (lk_X7_104 rfl) (by omega) kd_0 rfl rfl rfl (Nat.le_of_ble_eq_true rfl) (sp_X7_isKnot (by omega)  ?_)
  refine wp_if_eq 17 9 dX7_voice_6 rfl rfl ⟨fun c1 => ?_, fun c1 => ?_⟩
  · replace H := H.1 c1
    refine wp_aload_n 18 dX7_voice_17 rfl rfl ?_
    refine wp_iconst (1 : Int32) 19 dX7_voice_18 kiconst_1 rfl ?_
    have c2 := H.1; replace H := H.2
    refine wp_cV (d - 1) 1 [.int (1 : Int32)] [] 22 dX7_voice_19 rfl (lk_X7_62 rfl) (by omega) kd_0 rfl rfl rfl (Nat.le_of_ble_eq_true rfl) (sp_X7_error (by omega) c2 (fun h3 eh3 => ?_))
    replace H := H h3 eh3
    exact wp_reti dX7_voice_22 rfl H
  · replace H := H.2 c1
    refine wp_iload_n 10 dX7_voice_9 rfl rfl ?_
    refine wp_iconst (4 : Int32) 11 dX7_voice_10 kiconst_4 rfl ?_
    refine wp_cS (d - 1) 2 [.int a3, .int (4 : Int32)] [] 14 dX7_voice_11 rfl (lk_X7_58 rfl) (by omega) rfl rfl (Nat.le_of_ble_eq_true rfl) (sp_X7_within (by omega)  ?_)
    refine wp_if_ne 23 17 dX7_voice_14 rfl rfl ⟨fun c4 => ?_, fun c4 => ?_⟩
    · replace H := H.1 c4
      refine wp_iconst (3 : Int32) 24 dX7_voice_23 kiconst_3 rfl ?_
      refine wp_iload_n 25 dX7_voice_24 rfl rfl ?_
      refine wp_imul 26 dX7_voice_25 rfl ?_
      refine wp_iload_n 27 dX7_voice_26 rfl rfl ?_
      refine wp_iadd 28 dX7_voice_27 rfl ?_
      refine wp_istore 30 dX7_voice_28 rfl (Nat.le_of_ble_eq_true rfl) rfl ?_
      refine wp_aload_n 31 dX7_voice_30 rfl rfl ?_
      refine wp_getR 76 76 34 dX7_voice_31 rfl fl_X7_43 kd_0 rfl rfl rfl rfl ?_
      refine wp_aload_n 35 dX7_voice_34 rfl rfl ?_
      refine wp_getR 1 1 38 dX7_voice_35 rfl fl_X7_12 kd_0 rfl rfl rfl rfl ?_
      refine wp_getR 5 6 41 dX7_voice_38 rfl fl_X7_110 kd_1 rfl rfl rfl rfl ?_
      refine wp_iload 43 dX7_voice_41 rfl rfl ?_
      have c5 := H.1; replace H := H.2
      refine wp_iald 44 dX7_voice_43 rfl kd_6 c5 ?_
      refine wp_aload_n 45 dX7_voice_44 rfl rfl ?_
      refine wp_getR 1 1 48 dX7_voice_45 rfl fl_X7_12 kd_0 rfl rfl rfl rfl ?_
      refine wp_getR 6 7 51 dX7_voice_48 rfl fl_X7_113 kd_1 rfl rfl rfl rfl ?_
      refine wp_iload 53 dX7_voice_51 rfl rfl ?_
      have c6 := H.1; replace H := H.2
      refine wp_iald 54 dX7_voice_53 rfl kd_7 c6 ?_
      refine wp_iload 56 dX7_voice_54 rfl rfl ?_
      refine wp_iload_n 57 dX7_voice_56 rfl rfl ?_
      refine wp_iload 59 dX7_voice_57 rfl rfl ?_
      refine wp_cV (d - 1) 5 [.int (h 6 ((((3 : Int32) * a1) + a2)).toNatClampNeg), .int (h 7 ((((3 : Int32) * a1) + a2)).toNatClampNeg), .int (((3 : Int32) * a1) + a2), .int a3, .int a4] [] 62 dX7_voice_59 rfl (lk_X7_239 rfl) (by omega) kd_76 rfl rfl rfl (Nat.le_of_ble_eq_true rfl) (H.mono (fun x7 h8 H => ?_))
      refine wp_istore 64 dX7_voice_62 rfl (Nat.le_of_ble_eq_true rfl) rfl ?_
      refine wp_aload_n 65 dX7_voice_64 rfl rfl ?_
      refine wp_getR 76 76 68 dX7_voice_65 rfl fl_X7_43 kd_0 rfl rfl rfl rfl ?_
      refine wp_getI 71 dX7_voice_68 rfl fl_X7_243 kd_76 rfl ?_
      refine wp_if_eq 83 74 dX7_voice_71 rfl rfl ⟨fun c9 => ?_, fun c9 => ?_⟩
      · replace H := H.1 c9
        refine wp_iload 85 dX7_voice_83 rfl rfl ?_
        exact wp_reti dX7_voice_85 rfl H
      · replace H := H.2 c9
        refine wp_aload_n 75 dX7_voice_74 rfl rfl ?_
        refine wp_bipush (6 : Int32) 77 dX7_voice_75 kbipush_6 rfl ?_
        have c10 := H.1; replace H := H.2
        refine wp_cV (d - 1) 1 [.int (6 : Int32)] [] 80 dX7_voice_77 rfl (lk_X7_62 rfl) (by omega) kd_0 rfl rfl rfl (Nat.le_of_ble_eq_true rfl) (sp_X7_error (by omega) c10 (fun h11 eh11 => ?_))
        replace H := H h11 eh11
        refine wp_goto 85 dX7_voice_80 rfl ?_
        exact wp_reti dX7_voice_85 rfl H
    · replace H := H.2 c4
      refine wp_aload_n 18 dX7_voice_17 rfl rfl ?_
      refine wp_iconst (1 : Int32) 19 dX7_voice_18 kiconst_1 rfl ?_
      have c12 := H.1; replace H := H.2
      refine wp_cV (d - 1) 1 [.int (1 : Int32)] [] 22 dX7_voice_19 rfl (lk_X7_62 rfl) (by omega) kd_0 rfl rfl rfl (Nat.le_of_ble_eq_true rfl) (sp_X7_error (by omega) c12 (fun h13 eh13 => ?_))
      replace H := H h13 eh13
      exact wp_reti dX7_voice_22 rfl H

theorem cg_X7_voice {G : kG} {d : Nat} {Q : Int32 → kM → Prop}  {a1 : Int32} {a2 : Int32} {a3 : Int32} {a4 : Int32} {h : kM} (hd : 13 ≤ d)  (H :
    (((kb ((0 ≤ a1 ∧ a1 < h 1 12) ∧ (0 ≤ a2 ∧ a2 < 3))) = 0 →
      (vp_in (1 : Int32) 7) ∧
      ∀ h3 : kM, h3 = kErr h 87 (1 : Int32) →
      Q (-1000000000 - (1 : Int32)) h3
    ) ∧ (¬ ((kb ((0 ≤ a1 ∧ a1 < h 1 12) ∧ (0 ≤ a2 ∧ a2 < 3))) = 0) →
      ((¬ (kb (0 ≤ a3 ∧ a3 < (4 : Int32))) = 0 →
        (vp_in (((3 : Int32) * a1) + a2) 15) ∧
        (vp_in (((3 : Int32) * a1) + a2) 15) ∧
        Cal G (d - 1) m_X5_answer [.ref 76, .int (h 6 ((((3 : Int32) * a1) + a2)).toNatClampNeg), .int (h 7 ((((3 : Int32) * a1) + a2)).toNatClampNeg), .int (((3 : Int32) * a1) + a2), .int a3, .int a4] h (fun x7 h8 =>
          (((h8 76 2) = 0 →
            Q x7 h8
          ) ∧ (¬ ((h8 76 2) = 0) →
            (vp_in (6 : Int32) 7) ∧
            ∀ h11 : kM, h11 = kErr h8 87 (6 : Int32) →
            Q (-1000000000 - (6 : Int32)) h11
          ))
        )
      ) ∧ ((kb (0 ≤ a3 ∧ a3 < (4 : Int32))) = 0 →
        (vp_in (1 : Int32) 7) ∧
        ∀ h13 : kM, h13 = kErr h 87 (1 : Int32) →
        Q (-1000000000 - (1 : Int32)) h13
      ))
    ))) : Cal G d m_X7_voice [.ref 0, .int a1, .int a2, .int a3, .int a4] h Q :=
  Cal.of [.ref 0, .int a1, .int a2, .int a3, .int a4, .null, .null] (by decide +kernel) (Nat.le_of_ble_eq_true rfl) rfl (sg_X7_voice_0 hd  H)

theorem sg_X8_voice_0 {G : kG} {d : Nat} {Q : Int32 → kM → Prop}  {a1 : Int32} {a2 : Int32} {a3 : Int32} {a4 : Int32} {h : kM} (hd : 11 ≤ d)  (H :
    (((kb ((0 ≤ a1 ∧ a1 ≤ h 89 0 - 1) ∧ (0 ≤ a2 ∧ a2 ≤ 2))) = 0 →
      (vp_in (1 : Int32) 7) ∧
      ∀ h3 : kM, h3 = kErr h 93 (1 : Int32) →
      Q (-1000000000 - (1 : Int32)) h3
    ) ∧ (¬ ((kb ((0 ≤ a1 ∧ a1 ≤ h 89 0 - 1) ∧ (0 ≤ a2 ∧ a2 ≤ 2))) = 0) →
      ((¬ (kb ((0 : Int32) ≤ a3 ∧ a3 ≤ (3 : Int32))) = 0 →
        ∀ h5 : kM, h5 = kU h 88 17 (0 : Int32) →
        ∀ h6 : kM, h6 = kU h5 88 18 (((3 : Int32) * a1) + a2) →
        ∀ h7 : kM, h7 = kU h6 88 19 (0 : Int32) →
        (okI (h7 88 18) 0) ∧
        ((¬ a3 = 0 →
          ((¬ a3 = (1 : Int32) →
            ((¬ a3 = (2 : Int32) →
              Cal G (d - 1) m_X8_partsAs [.ref 88, .int (mIt (h7 89) (h7 88 18) 0), .int a4] h7 (fun x12 h13 =>
                (((h13 88 19) = 0 →
                  Q x12 h13
                ) ∧ (¬ ((h13 88 19) = 0) →
                  (vp_in (6 : Int32) 7) ∧
                  ∀ h16 : kM, h16 = kErr h13 93 (6 : Int32) →
                  Q (-1000000000 - (6 : Int32)) h16
                ))
              )
            ) ∧ (a3 = (2 : Int32) →
              Cal G (d - 1) m_X8_tiesAs [.ref 88, .int (mIt (h7 89) (h7 88 18) 0), .int a4] h7 (fun x17 h18 =>
                (((h18 88 19) = 0 →
                  Q x17 h18
                ) ∧ (¬ ((h18 88 19) = 0) →
                  (vp_in (6 : Int32) 7) ∧
                  ∀ h21 : kM, h21 = kErr h18 93 (6 : Int32) →
                  Q (-1000000000 - (6 : Int32)) h21
                ))
              )
            ))
          ) ∧ (a3 = (1 : Int32) →
            Cal G (d - 1) m_X8_turnsAs [.ref 88, .int (mIt (h7 89) (h7 88 18) 0), .int a4] h7 (fun x22 h23 =>
              (((h23 88 19) = 0 →
                Q x22 h23
              ) ∧ (¬ ((h23 88 19) = 0) →
                (vp_in (6 : Int32) 7) ∧
                ∀ h26 : kM, h26 = kErr h23 93 (6 : Int32) →
                Q (-1000000000 - (6 : Int32)) h26
              ))
            )
          ))
        ) ∧ (a3 = 0 →
          Cal G (d - 1) m_X8_blowsAs [.ref 88, .int (mIt (h7 89) (h7 88 18) 0), .int a4] h7 (fun x27 h28 =>
            (((h28 88 19) = 0 →
              Q x27 h28
            ) ∧ (¬ ((h28 88 19) = 0) →
              (vp_in (6 : Int32) 7) ∧
              ∀ h31 : kM, h31 = kErr h28 93 (6 : Int32) →
              Q (-1000000000 - (6 : Int32)) h31
            ))
          )
        ))
      ) ∧ ((kb ((0 : Int32) ≤ a3 ∧ a3 ≤ (3 : Int32))) = 0 →
        (vp_in (1 : Int32) 7) ∧
        ∀ h33 : kM, h33 = kErr h 93 (1 : Int32) →
        Q (-1000000000 - (1 : Int32)) h33
      ))
    ))) : Wp G d m_X8_voice (kEo G d m_X8_voice Q) 0 [.ref 88, .int a1, .int a2, .int a3, .int a4, .null, .null] [] h := by
  refine wp_aload_n 1 dX8_voice_0 rfl rfl ?_
  refine wp_iload_n 2 dX8_voice_1 rfl rfl ?_
  refine wp_iload_n 3 dX8_voice_2 rfl rfl ?_
  refine wp_cV (d - 1) 2 [.int a1, .int a2] [] 6 dX8_voice_3 rfl (lk_X8_164 rfl) (by omega) kd_88 rfl rfl rfl (Nat.le_of_ble_eq_true rfl) (sp_X8_isKnot (by omega)  ?_)
  refine wp_if_eq 18 9 dX8_voice_6 rfl rfl ⟨fun c1 => ?_, fun c1 => ?_⟩
  · replace H := H.1 c1
    refine wp_aload_n 19 dX8_voice_18 rfl rfl ?_
    refine wp_iconst (1 : Int32) 20 dX8_voice_19 kiconst_1 rfl ?_
    have c2 := H.1; replace H := H.2
    refine wp_cV (d - 1) 1 [.int (1 : Int32)] [] 23 dX8_voice_20 rfl (lk_X8_62 rfl) (by omega) kd_88 rfl rfl rfl (Nat.le_of_ble_eq_true rfl) (sp_X8_error (by omega) c2 (fun h3 eh3 => ?_))
    replace H := H h3 eh3
    exact wp_reti dX8_voice_23 rfl H
  · replace H := H.2 c1
    refine wp_iload_n 10 dX8_voice_9 rfl rfl ?_
    refine wp_iconst (0 : Int32) 11 dX8_voice_10 kiconst_0 rfl ?_
    refine wp_iconst (3 : Int32) 12 dX8_voice_11 kiconst_3 rfl ?_
    refine wp_cS (d - 1) 3 [.int a3, .int (0 : Int32), .int (3 : Int32)] [] 15 dX8_voice_12 rfl (lk_X8_50 rfl) (by omega) rfl rfl (Nat.le_of_ble_eq_true rfl) (sp_X8_in (by omega)  ?_)
    refine wp_if_ne 24 18 dX8_voice_15 rfl rfl ⟨fun c4 => ?_, fun c4 => ?_⟩
    · replace H := H.1 c4
      refine wp_aload_n 25 dX8_voice_24 rfl rfl ?_
      refine wp_iconst (0 : Int32) 26 dX8_voice_25 kiconst_0 rfl ?_
      refine wp_putI 29 dX8_voice_26 rfl fl_X8_247 fin_8_17 kd_88 rfl ?_
      refine wp_nm (fun h5 eh5 => ?_)
      replace H := H h5 eh5
      refine wp_aload_n 30 dX8_voice_29 rfl rfl ?_
      refine wp_iconst (3 : Int32) 31 dX8_voice_30 kiconst_3 rfl ?_
      refine wp_iload_n 32 dX8_voice_31 rfl rfl ?_
      refine wp_imul 33 dX8_voice_32 rfl ?_
      refine wp_iload_n 34 dX8_voice_33 rfl rfl ?_
      refine wp_iadd 35 dX8_voice_34 rfl ?_
      refine wp_putI 38 dX8_voice_35 rfl fl_X8_250 fin_8_18 kd_88 rfl ?_
      refine wp_nm (fun h6 eh6 => ?_)
      replace H := H h6 eh6
      refine wp_aload_n 39 dX8_voice_38 rfl rfl ?_
      refine wp_iconst (0 : Int32) 40 dX8_voice_39 kiconst_0 rfl ?_
      refine wp_putZ 43 dX8_voice_40 rfl fl_X8_274 fin_8_19 kd_88 rfl (Or.inl rfl) ?_
      refine wp_nm (fun h7 eh7 => ?_)
      replace H := H h7 eh7
      refine wp_aload_n 44 dX8_voice_43 rfl rfl ?_
      have c8 := H.1; replace H := H.2
      refine wp_cV (d - 1) 0 [] [] 47 dX8_voice_44 rfl (lk_X8_262 rfl) (by omega) kd_88 rfl rfl rfl (Nat.le_of_ble_eq_true rfl) (sp_X8_kindNow (by omega) c8 ?_)
      refine wp_istore 49 dX8_voice_47 rfl (Nat.le_of_ble_eq_true rfl) rfl ?_
      refine wp_iload_n 50 dX8_voice_49 rfl rfl ?_
      refine wp_if_ne 64 53 dX8_voice_50 rfl rfl ⟨fun c9 => ?_, fun c9 => ?_⟩
      · replace H := H.1 c9
        refine wp_iload_n 65 dX8_voice_64 rfl rfl ?_
        refine wp_iconst (1 : Int32) 66 dX8_voice_65 kiconst_1 rfl ?_
        refine wp_icmp_ne 80 69 dX8_voice_66 rfl rfl ⟨fun c10 => ?_, fun c10 => ?_⟩
        · replace H := H.1 c10
          refine wp_iload_n 81 dX8_voice_80 rfl rfl ?_
          refine wp_iconst (2 : Int32) 82 dX8_voice_81 kiconst_2 rfl ?_
          refine wp_icmp_ne 96 85 dX8_voice_82 rfl rfl ⟨fun c11 => ?_, fun c11 => ?_⟩
          · replace H := H.1 c11
            refine wp_aload_n 97 dX8_voice_96 rfl rfl ?_
            refine wp_iload 99 dX8_voice_97 rfl rfl ?_
            refine wp_iload 101 dX8_voice_99 rfl rfl ?_
            refine wp_cV (d - 1) 2 [.int (mIt (h7 89) (h7 88 18) 0), .int a4] [] 104 dX8_voice_101 rfl (lk_X8_278 rfl) (by omega) kd_88 rfl rfl rfl (Nat.le_of_ble_eq_true rfl) (H.mono (fun x12 h13 H => ?_))
            refine wp_istore 106 dX8_voice_104 rfl (Nat.le_of_ble_eq_true rfl) rfl ?_
            refine wp_aload_n 107 dX8_voice_106 rfl rfl ?_
            refine wp_getI 110 dX8_voice_107 rfl fl_X8_274 kd_88 rfl ?_
            refine wp_if_eq 122 113 dX8_voice_110 rfl rfl ⟨fun c14 => ?_, fun c14 => ?_⟩
            · replace H := H.1 c14
              refine wp_iload 124 dX8_voice_122 rfl rfl ?_
              exact wp_reti dX8_voice_124 rfl H
            · replace H := H.2 c14
              refine wp_aload_n 114 dX8_voice_113 rfl rfl ?_
              refine wp_bipush (6 : Int32) 116 dX8_voice_114 kbipush_6 rfl ?_
              have c15 := H.1; replace H := H.2
              refine wp_cV (d - 1) 1 [.int (6 : Int32)] [] 119 dX8_voice_116 rfl (lk_X8_62 rfl) (by omega) kd_88 rfl rfl rfl (Nat.le_of_ble_eq_true rfl) (sp_X8_error (by omega) c15 (fun h16 eh16 => ?_))
              replace H := H h16 eh16
              refine wp_goto 124 dX8_voice_119 rfl ?_
              exact wp_reti dX8_voice_124 rfl H
          · replace H := H.2 c11
            refine wp_aload_n 86 dX8_voice_85 rfl rfl ?_
            refine wp_iload 88 dX8_voice_86 rfl rfl ?_
            refine wp_iload 90 dX8_voice_88 rfl rfl ?_
            refine wp_cV (d - 1) 2 [.int (mIt (h7 89) (h7 88 18) 0), .int a4] [] 93 dX8_voice_90 rfl (lk_X8_271 rfl) (by omega) kd_88 rfl rfl rfl (Nat.le_of_ble_eq_true rfl) (H.mono (fun x17 h18 H => ?_))
            refine wp_goto 104 dX8_voice_93 rfl ?_
            refine wp_istore 106 dX8_voice_104 rfl (Nat.le_of_ble_eq_true rfl) rfl ?_
            refine wp_aload_n 107 dX8_voice_106 rfl rfl ?_
            refine wp_getI 110 dX8_voice_107 rfl fl_X8_274 kd_88 rfl ?_
            refine wp_if_eq 122 113 dX8_voice_110 rfl rfl ⟨fun c19 => ?_, fun c19 => ?_⟩
            · replace H := H.1 c19
              refine wp_iload 124 dX8_voice_122 rfl rfl ?_
              exact wp_reti dX8_voice_124 rfl H
            · replace H := H.2 c19
              refine wp_aload_n 114 dX8_voice_113 rfl rfl ?_
              refine wp_bipush (6 : Int32) 116 dX8_voice_114 kbipush_6 rfl ?_
              have c20 := H.1; replace H := H.2
              refine wp_cV (d - 1) 1 [.int (6 : Int32)] [] 119 dX8_voice_116 rfl (lk_X8_62 rfl) (by omega) kd_88 rfl rfl rfl (Nat.le_of_ble_eq_true rfl) (sp_X8_error (by omega) c20 (fun h21 eh21 => ?_))
              replace H := H h21 eh21
              refine wp_goto 124 dX8_voice_119 rfl ?_
              exact wp_reti dX8_voice_124 rfl H
        · replace H := H.2 c10
          refine wp_aload_n 70 dX8_voice_69 rfl rfl ?_
          refine wp_iload 72 dX8_voice_70 rfl rfl ?_
          refine wp_iload 74 dX8_voice_72 rfl rfl ?_
          refine wp_cV (d - 1) 2 [.int (mIt (h7 89) (h7 88 18) 0), .int a4] [] 77 dX8_voice_74 rfl (lk_X8_265 rfl) (by omega) kd_88 rfl rfl rfl (Nat.le_of_ble_eq_true rfl) (H.mono (fun x22 h23 H => ?_))
          refine wp_goto 104 dX8_voice_77 rfl ?_
          refine wp_istore 106 dX8_voice_104 rfl (Nat.le_of_ble_eq_true rfl) rfl ?_
          refine wp_aload_n 107 dX8_voice_106 rfl rfl ?_
          refine wp_getI 110 dX8_voice_107 rfl fl_X8_274 kd_88 rfl ?_
          refine wp_if_eq 122 113 dX8_voice_110 rfl rfl ⟨fun c24 => ?_, fun c24 => ?_⟩
          · replace H := H.1 c24
            refine wp_iload 124 dX8_voice_122 rfl rfl ?_
            exact wp_reti dX8_voice_124 rfl H
          · replace H := H.2 c24
            refine wp_aload_n 114 dX8_voice_113 rfl rfl ?_
            refine wp_bipush (6 : Int32) 116 dX8_voice_114 kbipush_6 rfl ?_
            have c25 := H.1; replace H := H.2
            refine wp_cV (d - 1) 1 [.int (6 : Int32)] [] 119 dX8_voice_116 rfl (lk_X8_62 rfl) (by omega) kd_88 rfl rfl rfl (Nat.le_of_ble_eq_true rfl) (sp_X8_error (by omega) c25 (fun h26 eh26 => ?_))
            replace H := H h26 eh26
            refine wp_goto 124 dX8_voice_119 rfl ?_
            exact wp_reti dX8_voice_124 rfl H
      · replace H := H.2 c9
        refine wp_aload_n 54 dX8_voice_53 rfl rfl ?_
        refine wp_iload 56 dX8_voice_54 rfl rfl ?_
        refine wp_iload 58 dX8_voice_56 rfl rfl ?_
        refine wp_cV (d - 1) 2 [.int (mIt (h7 89) (h7 88 18) 0), .int a4] [] 61 dX8_voice_58 rfl (lk_X8_259 rfl) (by omega) kd_88 rfl rfl rfl (Nat.le_of_ble_eq_true rfl) (H.mono (fun x27 h28 H => ?_))
        refine wp_goto 104 dX8_voice_61 rfl ?_
        refine wp_istore 106 dX8_voice_104 rfl (Nat.le_of_ble_eq_true rfl) rfl ?_
        refine wp_aload_n 107 dX8_voice_106 rfl rfl ?_
        refine wp_getI 110 dX8_voice_107 rfl fl_X8_274 kd_88 rfl ?_
        refine wp_if_eq 122 113 dX8_voice_110 rfl rfl ⟨fun c29 => ?_, fun c29 => ?_⟩
        · replace H := H.1 c29
          refine wp_iload 124 dX8_voice_122 rfl rfl ?_
          exact wp_reti dX8_voice_124 rfl H
        · replace H := H.2 c29
          refine wp_aload_n 114 dX8_voice_113 rfl rfl ?_
          refine wp_bipush (6 : Int32) 116 dX8_voice_114 kbipush_6 rfl ?_
          have c30 := H.1; replace H := H.2
          refine wp_cV (d - 1) 1 [.int (6 : Int32)] [] 119 dX8_voice_116 rfl (lk_X8_62 rfl) (by omega) kd_88 rfl rfl rfl (Nat.le_of_ble_eq_true rfl) (sp_X8_error (by omega) c30 (fun h31 eh31 => ?_))
          replace H := H h31 eh31
          refine wp_goto 124 dX8_voice_119 rfl ?_
          exact wp_reti dX8_voice_124 rfl H
    · replace H := H.2 c4
      refine wp_aload_n 19 dX8_voice_18 rfl rfl ?_
      refine wp_iconst (1 : Int32) 20 dX8_voice_19 kiconst_1 rfl ?_
      have c32 := H.1; replace H := H.2
      refine wp_cV (d - 1) 1 [.int (1 : Int32)] [] 23 dX8_voice_20 rfl (lk_X8_62 rfl) (by omega) kd_88 rfl rfl rfl (Nat.le_of_ble_eq_true rfl) (sp_X8_error (by omega) c32 (fun h33 eh33 => ?_))
      replace H := H h33 eh33
      exact wp_reti dX8_voice_23 rfl H

theorem cg_X8_voice {G : kG} {d : Nat} {Q : Int32 → kM → Prop}  {a1 : Int32} {a2 : Int32} {a3 : Int32} {a4 : Int32} {h : kM} (hd : 11 ≤ d)  (H :
    (((kb ((0 ≤ a1 ∧ a1 ≤ h 89 0 - 1) ∧ (0 ≤ a2 ∧ a2 ≤ 2))) = 0 →
      (vp_in (1 : Int32) 7) ∧
      ∀ h3 : kM, h3 = kErr h 93 (1 : Int32) →
      Q (-1000000000 - (1 : Int32)) h3
    ) ∧ (¬ ((kb ((0 ≤ a1 ∧ a1 ≤ h 89 0 - 1) ∧ (0 ≤ a2 ∧ a2 ≤ 2))) = 0) →
      ((¬ (kb ((0 : Int32) ≤ a3 ∧ a3 ≤ (3 : Int32))) = 0 →
        ∀ h5 : kM, h5 = kU h 88 17 (0 : Int32) →
        ∀ h6 : kM, h6 = kU h5 88 18 (((3 : Int32) * a1) + a2) →
        ∀ h7 : kM, h7 = kU h6 88 19 (0 : Int32) →
        (okI (h7 88 18) 0) ∧
        ((¬ a3 = 0 →
          ((¬ a3 = (1 : Int32) →
            ((¬ a3 = (2 : Int32) →
              Cal G (d - 1) m_X8_partsAs [.ref 88, .int (mIt (h7 89) (h7 88 18) 0), .int a4] h7 (fun x12 h13 =>
                (((h13 88 19) = 0 →
                  Q x12 h13
                ) ∧ (¬ ((h13 88 19) = 0) →
                  (vp_in (6 : Int32) 7) ∧
                  ∀ h16 : kM, h16 = kErr h13 93 (6 : Int32) →
                  Q (-1000000000 - (6 : Int32)) h16
                ))
              )
            ) ∧ (a3 = (2 : Int32) →
              Cal G (d - 1) m_X8_tiesAs [.ref 88, .int (mIt (h7 89) (h7 88 18) 0), .int a4] h7 (fun x17 h18 =>
                (((h18 88 19) = 0 →
                  Q x17 h18
                ) ∧ (¬ ((h18 88 19) = 0) →
                  (vp_in (6 : Int32) 7) ∧
                  ∀ h21 : kM, h21 = kErr h18 93 (6 : Int32) →
                  Q (-1000000000 - (6 : Int32)) h21
                ))
              )
            ))
          ) ∧ (a3 = (1 : Int32) →
            Cal G (d - 1) m_X8_turnsAs [.ref 88, .int (mIt (h7 89) (h7 88 18) 0), .int a4] h7 (fun x22 h23 =>
              (((h23 88 19) = 0 →
                Q x22 h23
              ) ∧ (¬ ((h23 88 19) = 0) →
                (vp_in (6 : Int32) 7) ∧
                ∀ h26 : kM, h26 = kErr h23 93 (6 : Int32) →
                Q (-1000000000 - (6 : Int32)) h26
              ))
            )
          ))
        ) ∧ (a3 = 0 →
          Cal G (d - 1) m_X8_blowsAs [.ref 88, .int (mIt (h7 89) (h7 88 18) 0), .int a4] h7 (fun x27 h28 =>
            (((h28 88 19) = 0 →
              Q x27 h28
            ) ∧ (¬ ((h28 88 19) = 0) →
              (vp_in (6 : Int32) 7) ∧
              ∀ h31 : kM, h31 = kErr h28 93 (6 : Int32) →
              Q (-1000000000 - (6 : Int32)) h31
            ))
          )
        ))
      ) ∧ ((kb ((0 : Int32) ≤ a3 ∧ a3 ≤ (3 : Int32))) = 0 →
        (vp_in (1 : Int32) 7) ∧
        ∀ h33 : kM, h33 = kErr h 93 (1 : Int32) →
        Q (-1000000000 - (1 : Int32)) h33
      ))
    ))) : Cal G d m_X8_voice [.ref 88, .int a1, .int a2, .int a3, .int a4] h Q :=
  Cal.of [.ref 88, .int a1, .int a2, .int a3, .int a4, .null, .null] (by decide +kernel) (Nat.le_of_ble_eq_true rfl) rfl (sg_X8_voice_0 hd  H)

/-- what a voice answers, and its bodies, where it isn't parted -/
def pV (K M : Int32) (t v : Nat) (x : Int32) : Int32 × List Int32 := if v = 0 then pB K t x else if v = 1 then pT K M t t x else if v = 2 then pI K M t t x else pPr K M t t x
theorem pV_l (K M : Int32) (t v : Nat) (x : Int32) : (pV K M t v x).2.length ≤ 8 := by
  have h1 := pB_l K t x
  have h2 := pT_l K M t t x
  have h3 := pI_l K M t t x
  have h4 := pPr_l K M t t x
  unfold pV
  split
  · omega
  · split
    · omega
    · split <;> omega
theorem sp_X5_answer (hd : 12 ≤ d) {t v : Nat} {x M K : Int32} (ht : t < 7) (hv : v < 4) (k0 : v = 3 → M - K = 0 → ∀ h1, kTc (pPl t) h1 → (∀ a, a ≠ 76 → a ≠ 77 → h1 a = h a) → h1 76 2 = 1 → Q 0 h1) (k : ¬ (v = 3 ∧ M - K = 0) → ∀ h1, kTc (pV K M t v x).2 h1 → (∀ a, a ≠ 76 → a ≠ 77 → h1 a = h a) → h1 76 2 = 0 → Q (pV K M t v x).1 h1) : Cal G d m_X5_answer [.ref 76, .int (nI t), .int M, .int K, .int (nI v), .int x] h Q := by
  refine cg_X5_answer hd (fun h1 e1 h2 e2 h3 e3 h4 e4 h5 e5 => ?_)
  have o5 : ∀ a, a ≠ 76 → h5 a = h a := fun a ha => by rw [e5, kU_ne ha, e4, kU_ne ha, e3, kU_ne ha, e2, kU_ne ha, e1, kU_ne ha]
  have c5 : h5 76 = upd (upd (upd (upd (upd (h 76) 3 (nI t)) 4 M) 5 K) 2 0) 1 0 := by rw [e5, kU_eq, e4, kU_eq, e3, kU_eq, e2, kU_eq, e1, kU_eq]
  have hp : kSp t M K h5 := by
    unfold kSp
    rw [c5]
    refine ⟨?_, ?_, ?_, ?_⟩
    · rw [pk_un (by decide), pk_us]
    · rw [pk_un (by decide), pk_un (by decide), pk_un (by decide), pk_un (by decide), pk_us]
    · rw [pk_un (by decide), pk_un (by decide), pk_un (by decide), pk_us]
    · rw [pk_un (by decide), pk_un (by decide), pk_us]
  have hT : kTc [] h5 := ⟨by rw [c5, pk_us]; exact nI_0.symm, fun i hi => absurd hi (Nat.not_lt_zero i)⟩
  rw [hp.2.1]
  have kv : ∀ (r : Int32 × List Int32), pV K M t v x = r → ¬ (v = 3 ∧ M - K = 0) → ∀ h1, kTc ([] ++ r.2) h1 → kCf h5 h1 → Q r.1 h1 := fun r er nn h1 T1 f1 => by
    have q := k nn h1 (by rw [er]; exact T1) (fun a a1 a2 => by rw [f1.1 a a1 a2, o5 a a1]) (by rw [f1.2 2 (by decide)]; exact hp.1)
    rw [er] at q
    exact q
  rcases (show v = 0 ∨ v = 1 ∨ v = 2 ∨ v = 3 by omega) with rfl | rfl | rfl | rfl
  · exact cB (d := d - 1) (e := 0) (by omega) ht (by omega) hp hT (by decide) (kv _ rfl (fun q => absurd q.1 (by decide)))
  · exact cT (d := d - 1) (e := 0) (by omega) ht (by omega) ht hp hT (by decide) (kv _ rfl (fun q => absurd q.1 (by decide)))
  · exact cI (d := d - 1) (e := 0) (by omega) ht (by omega) ht hp hT (by decide) (kv _ rfl (fun q => absurd q.1 (by decide)))
  · exact cP (d := d - 1) (e := 0) (by omega) ht (by omega) ht hp hT (by decide) (fun z h1 T1 f1 => k0 rfl z h1 T1 (fun a a1 a2 => by rw [f1.1 a a1 a2, o5 a a1]) f1.2.2) (fun z => kv _ rfl (fun q => z q.2))
theorem mo_voice (hd : 11 ≤ d) {vw : kM} {n H f w p j v : Nat} {t : Nat} {x M : Int32} (hS : kSRn vw (h 89) n H f w) (hp : p < n) (hj : j < 3) (hv : v < 4) (ht : t < 7) (e5 : vw 5 (3 * p + j) = nI t) (e6 : vw 6 (3 * p + j) = M) (k0 : v = 3 → M - nI (3 * p + j) = 0 → ∀ h1, kTm (pPl t) h1 → (∀ a, a ≠ 88 → a ≠ 97 → h1 a = h a) → h1 88 4 = h 88 4 → ∀ h2, h2 = kErr h1 93 6 → Q (-1000000000 - 6) h2) (k : ¬ (v = 3 ∧ M - nI (3 * p + j) = 0) → ∀ h1, kTm (pV (nI (3 * p + j)) M t v x).2 h1 → (∀ a, a ≠ 88 → a ≠ 97 → h1 a = h a) → h1 88 4 = h 88 4 → Q (pV (nI (3 * p + j)) M t v x).1 h1) : Cal G d m_X8_voice [.ref 88, .int (nI p), .int (nI j), .int (nI v), .int x] h Q := by
  have hn := hS.1.1
  have ec : (0 ≤ nI p ∧ nI p ≤ h 89 0 - 1) ∧ (0 ≤ nI j ∧ nI j ≤ 2) := by
    rw [hS.1.2.2]
    exact ⟨(iM (by omega)).mpr (iLt hp (by omega)), i2.mpr (iLt hj (by decide))⟩
  obtain ⟨t', m', wy, ht', hm', hwy, y1, y2, y3, y4, y5, y6, y7⟩ := hS.2.2.2.2.2.2.2.2.1 (3 * p + j) (by omega)
  refine cg_X8_voice hd ⟨fun q => absurd ec (kb_0.mp q), fun _ => ⟨fun _ h5 q5 h6 q6 h7 q7 => ?_, fun q => absurd (i3.mpr (iLt hv (by decide))) (kb_0.mp q)⟩⟩
  rw [ix3] at q6
  have o7 : ∀ a, a ≠ 88 → h7 a = h a := fun a ha => by rw [q7, kU_ne ha, q6, kU_ne ha, q5, kU_ne ha]
  have c7 : h7 88 = upd (upd (upd (h 88) 17 0) 18 (nI (3 * p + j))) 19 0 := by rw [q7, kU_eq, q6, kU_eq, q5, kU_eq]
  have c18 : h7 88 18 = nI (3 * p + j) := by rw [c7, pk_un (by decide), pk_us]
  have c19 : h7 88 19 = 0 := by rw [c7, pk_us]
  have c4 : h7 88 4 = h 88 4 := by rw [c7, pk_un (by decide), pk_un (by decide), pk_un (by decide)]
  have hP : kMp t M (nI (3 * p + j)) h7 := by
    refine ⟨c18, ?_, ?_, okI_n (w := 0) (by omega) (by decide), okI_n (w := 1) (by omega) (by decide)⟩
    · rw [mIt_0 (by omega), o7 89 (by decide), y2, ← y1, e5]
    · rw [mIt_1 (by omega), o7 89 (by decide), y4, ← y3, e6]
  have hT : kTm [] h7 := ⟨by rw [c7, pk_un (by decide), pk_un (by decide), pk_us]; exact nI_0.symm, fun i hi => absurd hi (Nat.not_lt_zero i)⟩
  rw [c18, hP.2.1]
  refine ⟨hP.2.2.2.1, ?_⟩
  have kv : ∀ (r : Int32 × List Int32), pV (nI (3 * p + j)) M t v x = r → ¬ (v = 3 ∧ M - nI (3 * p + j) = 0) → ∀ h1, kTm ([] ++ r.2) h1 → kMg h7 h1 0 → ((h1 88 19 = 0 → Q r.1 h1) ∧ (¬ h1 88 19 = 0 → vp_in 6 7 ∧ ∀ h16, h16 = kErr h1 93 6 → Q (-1000000000 - 6) h16)) := fun r er nn h1 T1 f1 => by
    have q := k nn h1 (by rw [er]; exact T1) (fun a a1 a2 => by rw [f1.1 a a1 a2, o7 a a1]) (by rw [f1.2.1 4 (by decide) (by decide), c4])
    rw [er] at q
    exact ⟨fun _ => q, fun z => absurd f1.2.2 z⟩
  have gf : ∀ h1, kMf h7 h1 → kMg h7 h1 0 := fun h1 f1 => ⟨f1.1, fun s s1 _ => f1.2 s s1, by rw [f1.2 19 (by decide), c19]⟩
  rcases (show v = 0 ∨ v = 1 ∨ v = 2 ∨ v = 3 by omega) with rfl | rfl | rfl | rfl
  · exact ⟨fun z => absurd nI_0 z, fun _ => dB (d := d - 1) (by omega) ht hP hT (by decide) (fun h1 T1 f1 => kv _ rfl (fun q => absurd q.1 (by decide)) h1 T1 (gf h1 f1))⟩
  · exact ⟨fun _ => ⟨fun z => absurd rfl z, fun _ => dT (d := d - 1) (by omega) ht ht hP hT (by decide) (fun h1 T1 f1 => kv _ rfl (fun q => absurd q.1 (by decide)) h1 T1 (gf h1 f1))⟩, fun z => absurd z (by decide)⟩
  · exact ⟨fun _ => ⟨fun _ => ⟨fun z => absurd rfl z, fun _ => dI (d := d - 1) (by omega) ht ht hP hT (by decide) (fun h1 T1 f1 => kv _ rfl (fun q => absurd q.1 (by decide)) h1 T1 (gf h1 f1))⟩, fun z => absurd z (by decide)⟩, fun z => absurd z (by decide)⟩
  · refine ⟨fun _ => ⟨fun _ => ⟨fun _ => dP (d := d - 1) (by omega) ht ht hP hT (by decide) (fun z h1 T1 f1 => ?_) (fun z h1 T1 f1 => kv _ rfl (fun q => z q.2) h1 T1 f1), fun z => absurd z (by decide)⟩, fun z => absurd z (by decide)⟩, fun z => absurd z (by decide)⟩
    exact ⟨fun y => absurd (f1.2.2.symm.trans y) (by decide), fun _ => ⟨kin7 (n := 6) (by decide), k0 rfl z h1 T1 (fun a a1 a2 => by rw [f1.1 a a1 a2, o7 a a1]) (by rw [f1.2.1 4 (by decide) (by decide), c4])⟩⟩
theorem st_voice (hd : 13 ≤ d) (hR : kRel h) (a1 a2 a3 a4 : Int32) : kStp G d m_X7_voice m_X8_voice [.int a1, .int a2, .int a3, .int a4] h := by
  obtain ⟨n, H, f, w, hS, hH⟩ := hR.n
  obtain ⟨hn, n1, n2⟩ := hS.1
  have n1 : h 1 12 = nI n := n1
  by_cases hc : (0 ≤ a1 ∧ a1 < nI n) ∧ (0 ≤ a2 ∧ a2 < 3)
  · by_cases hv : 0 ≤ a3 ∧ a3 < 4
    · obtain ⟨p, j, hp, hj, rfl, rfl⟩ := kKn hn hc
      obtain ⟨v, hv4, rfl⟩ := iI (n := 4) (by decide) hv.1 hv.2
      obtain ⟨t, m, wy, ht, hm, hwy, y1, y2, y3, y4, y5, y6, y7⟩ := hS.2.2.2.2.2.2.2.2.1 (3 * p + j) (by omega)
      have y1' : h 6 (3 * p + j) = nI t := y1
      have y3' : h 7 (3 * p + j) = nI m := y3
      have vk : vp_in (nI (3 * p + j)) 15 := vp_in_nI (by omega) (by decide)
      refine cg_X7_voice hd ⟨fun q => absurd (by rw [n1]; exact hc) (kb_0.mp q), fun _ => ⟨fun _ => ?_, fun q => absurd hv (kb_0.mp q)⟩⟩
      rw [ix3, nI_clamp (by omega), y1', y3']
      refine ⟨vk, vk, sp_X5_answer (d := d - 1) (by omega) ht hv4 (fun e3 z h1 T1 o1 f1 => ?_) (fun nn h1 T1 o1 f1 => ?_)⟩
      · refine ⟨fun y => absurd (f1.symm.trans y) (by decide), fun _ => ⟨kin7 (n := 6) (by decide), fun h2 e2 => ?_⟩⟩
        have o2 : ∀ a, a ≠ 76 → a ≠ 77 → a ≠ 87 → h2 a = h a := fun a x1 x2 x3 => by rw [e2, kErr_ne x3, o1 a x1 x2]
        refine mo_voice (by omega) (hS.congr2 (o2 89 (by decide) (by decide) (by decide))) hp hj hv4 ht y1 y3 (fun _ _ h3 T3 o3 c4 h4 e4 => ⟨rfl, ?_⟩) (fun nn => absurd ⟨e3, z⟩ nn)
        refine hR.traceE (L := pPl t) (e := 6) (fun a s x1 x2 x3 x4 x5 x6 => by rw [e4, kErr_ne x6, o3 a x3 x4, o2 a x1 x2 x5]) (by rw [e4, kErr_ne (by decide), c4, o2 88 (by decide) (by decide) (by decide)]) (pPl_l t) ⟨?_, fun i hi => ?_⟩ ⟨?_, fun i hi => ?_⟩ ?_ ?_
        · rw [e4, kErr_ne (by decide), o3 76 (by decide) (by decide), e2, kErr_ne (by decide)]
          exact T1.1
        · rw [e4, kErr_ne (by decide), o3 77 (by decide) (by decide), e2, kErr_ne (by decide)]
          exact T1.2 i hi
        · rw [e4, kErr_ne (by decide)]
          exact T3.1
        · rw [e4, kErr_ne (by decide)]
          exact T3.2 i hi
        · rw [e4, kErr_ne (by decide), o3 87 (by decide) (by decide), e2]
          unfold kErr
          rw [kU_eq, kU_eq, o1 87 (by decide) (by decide)]
        · rw [e4]
          unfold kErr
          rw [kU_eq, kU_eq, o3 93 (by decide) (by decide), o2 93 (by decide) (by decide) (by decide)]
      · refine ⟨fun _ => ?_, fun y => absurd f1 y⟩
        refine mo_voice (by omega) (hS.congr2 (o1 89 (by decide) (by decide))) hp hj hv4 ht y1 y3 (fun e3 z => absurd ⟨e3, z⟩ nn) (fun _ h3 T3 o3 c4 => ⟨rfl, ?_⟩)
        refine hR.trace (L := (pV (nI (3 * p + j)) (nI m) t v a4).2) (fun a s x1 x2 x3 x4 => by rw [o3 a x3 x4, o1 a x1 x2]) (by rw [c4, o1 88 (by decide) (by decide)]) (pV_l _ _ _ _ _) ⟨?_, fun i hi => ?_⟩ T3
        · rw [o3 76 (by decide) (by decide)]
          exact T1.1
        · rw [o3 77 (by decide) (by decide)]
          exact T1.2 i hi
    · refine cg_X7_voice hd ⟨fun q => absurd (by rw [n1]; exact hc) (kb_0.mp q), fun _ => ⟨fun q => absurd (kb_n0.mp q) hv, fun _ => ⟨kin7 (n := 1) (by decide), fun h1 e1 => ?_⟩⟩⟩
      have x0 : h1 89 0 = nI n := by rw [e1, kErr_ne (by decide)]; exact n2
      exact cg_X8_voice (by omega) ⟨fun q => absurd (by rw [x0]; exact (kKm hn).mpr hc) (kb_0.mp q), fun _ => ⟨fun q => absurd (i3.mp (kb_n0.mp q)) hv, fun _ => ⟨kin7 (n := 1) (by decide), kErrs hR h1 e1⟩⟩⟩
  · refine cg_X7_voice hd ⟨fun _ => ⟨kin7 (n := 1) (by decide), fun h1 e1 => ?_⟩, fun q => absurd (by have := kb_n0.mp q; rw [n1] at this; exact this) hc⟩
    have x0 : h1 89 0 = nI n := by rw [e1, kErr_ne (by decide)]; exact n2
    exact cg_X8_voice (by omega) ⟨fun _ => ⟨kin7 (n := 1) (by decide), kErrs hR h1 e1⟩, fun q => absurd ((kKm hn).mp (by have := kb_n0.mp q; rw [x0] at this; exact this)) hc⟩
end MVoice

