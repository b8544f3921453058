/-! then, count -/
section Then
variable {G : kG} {d : Nat} {Q : Int32 → kM → Prop} {h : kM}
/-- the model goes on, so many hours -/
theorem sp_X8_goI (hd : 8 ≤ d) {v : kM} {g : Nat → Int32} {n H f w N i0 : Nat} (hN : N ≤ 100) (hH : H + (i0 + N) ≤ 100000) {h0 : kM} (a : kAh v g n H f w i0 h0 h) (kk : ∀ h1, kAh v g n H f w (i0 + N) h0 h1 → Q 0 h1) : Cal G d m_X8_go [.ref 88, .int (nI N)] h Q := by
  have lp : ∀ (m i : Nat) (h1 : kM), i + m = N → kAh v g n H f w (i0 + i) h0 h1 → at_X8_go_2 G d Q (nI N) (nI i) h1 := by
    intro m
    induction m with
    | zero =>
      intro i h1 hi a
      have hi2 : i = N := by omega
      subst hi2
      exact sg_X8_go_2 hd ⟨fun _ => kk h1 a, fun z => absurd (nI_le (Nat.le_refl _) (by omega)) z⟩
    | succ m ih =>
      intro i h1 hi a
      refine sg_X8_go_2 hd ⟨fun z => absurd z (ltn (nI_lt (by omega) (by omega))), fun _ => ?_⟩
      refine a.step (by omega) (by omega) (fun h2 a2 => ?_)
      rw [nI_1]
      exact ih (i + 1) h2 (by omega) a2
  exact cg_X8_go hd (lp N 0 h (by omega) a)
def at_X7_then_46 (G : kG) (d : Nat) (Q : Int32 → kM → Prop)  (v1 : Int32) (v2 : Int32) (v3 : Int32) (v4 : Int32) (v5 : Int32) (h : kM) : Prop := Wp G d m_X7_then (kEo G d m_X7_then Q) 46 [.ref 0, .int v1, .int v2, .int v3, .int v4, .int v5] [] h
theorem sg_X7_then_0 {G : kG} {d : Nat} {Q : Int32 → kM → Prop}  {a1 : Int32} {a2 : Int32} {a3 : Int32} {h : kM} (hd : 7 ≤ d)  (H :
    (((kb ((0 : Int32) ≤ a1 ∧ a1 ≤ (48 : Int32))) = 0 →
      (vp_in (1 : Int32) 7) ∧
      ∀ h3 : kM, h3 = kErr h 87 (1 : Int32) →
      Q (-1000000000 - (1 : Int32)) h3
    ) ∧ (¬ ((kb ((0 : Int32) ≤ a1 ∧ a1 ≤ (48 : Int32))) = 0) →
      (((kb (0 ≤ a2 ∧ a2 < h 1 12)) = 0 →
        (vp_in (1 : Int32) 7) ∧
        ∀ h6 : kM, h6 = kErr h 87 (1 : Int32) →
        Q (-1000000000 - (1 : Int32)) h6
      ) ∧ (¬ ((kb (0 ≤ a2 ∧ a2 < h 1 12)) = 0) →
        ((¬ (kb (0 ≤ a3 ∧ a3 < (5 : Int32))) = 0 →
          (vp_in a2 5) ∧
          at_X7_then_46 G d Q a1 a2 a3 (h 4 (a2).toNatClampNeg) (0 : Int32) h
        ) ∧ ((kb (0 ≤ a3 ∧ a3 < (5 : Int32))) = 0 →
          (vp_in (1 : Int32) 7) ∧
          ∀ h10 : kM, h10 = kErr h 87 (1 : Int32) →
          Q (-1000000000 - (1 : Int32)) h10
        ))
      ))
    ))) : Wp G d m_X7_then (kEo G d m_X7_then Q) 0 [.ref 0, .int a1, .int a2, .int a3, .null, .null] [] h := by
  refine wp_iload_n 1 dX7_then_0 rfl rfl ?_
  refine wp_iconst (0 : Int32) 2 dX7_then_1 kiconst_0 rfl ?_
  refine wp_bipush (48 : Int32) 4 dX7_then_2 kbipush_48 rfl ?_
  refine wp_cS (d - 1) 3 [.int a1, .int (0 : Int32), .int (48 : Int32)] [] 7 dX7_then_4 rfl (lk_X7_69 rfl) (by omega) rfl rfl (Nat.le_of_ble_eq_true rfl) (sp_X7_between (by omega)  ?_)
  refine wp_if_eq 26 10 dX7_then_7 rfl rfl ⟨fun c1 => ?_, fun c1 => ?_⟩
  · replace H := H.1 c1
    refine wp_aload_n 27 dX7_then_26 rfl rfl ?_
    refine wp_iconst (1 : Int32) 28 dX7_then_27 kiconst_1 rfl ?_
    have c2 := H.1; replace H := H.2
    refine wp_cV (d - 1) 1 [.int (1 : Int32)] [] 31 dX7_then_28 rfl (lk_X7_62 rfl) (by omega) kd_0 rfl rfl rfl (Nat.le_of_ble_eq_true rfl) (sp_X7_error (by omega) c2 (fun h3 eh3 => ?_))
    replace H := H h3 eh3
    exact wp_reti dX7_then_31 rfl H
  · replace H := H.2 c1
    refine wp_aload_n 11 dX7_then_10 rfl rfl ?_
    refine wp_iload_n 12 dX7_then_11 rfl rfl ?_
    refine wp_cV (d - 1) 1 [.int a2] [] 15 dX7_then_12 rfl (lk_X7_84 rfl) (by omega) kd_0 rfl rfl rfl (Nat.le_of_ble_eq_true rfl) (sp_X7_isShip (by omega)  ?_)
    refine wp_if_eq 26 18 dX7_then_15 rfl rfl ⟨fun c4 => ?_, fun c4 => ?_⟩
    · replace H := H.1 c4
      refine wp_aload_n 27 dX7_then_26 rfl rfl ?_
      refine wp_iconst (1 : Int32) 28 dX7_then_27 kiconst_1 rfl ?_
      have c5 := H.1; replace H := H.2
      refine wp_cV (d - 1) 1 [.int (1 : Int32)] [] 31 dX7_then_28 rfl (lk_X7_62 rfl) (by omega) kd_0 rfl rfl rfl (Nat.le_of_ble_eq_true rfl) (sp_X7_error (by omega) c5 (fun h6 eh6 => ?_))
      replace H := H h6 eh6
      exact wp_reti dX7_then_31 rfl H
    · replace H := H.2 c4
      refine wp_iload_n 19 dX7_then_18 rfl rfl ?_
      refine wp_iconst (5 : Int32) 20 dX7_then_19 kiconst_5 rfl ?_
      refine wp_cS (d - 1) 2 [.int a3, .int (5 : Int32)] [] 23 dX7_then_20 rfl (lk_X7_58 rfl) (by omega) rfl rfl (Nat.le_of_ble_eq_true rfl) (sp_X7_within (by omega)  ?_)
      refine wp_if_ne 32 26 dX7_then_23 rfl rfl ⟨fun c7 => ?_, fun c7 => ?_⟩
      · replace H := H.1 c7
        refine wp_aload_n 33 dX7_then_32 rfl rfl ?_
        refine wp_getR 1 1 36 dX7_then_33 rfl fl_X7_12 kd_0 rfl rfl rfl rfl ?_
        refine wp_getR 3 4 39 dX7_then_36 rfl fl_X7_88 kd_1 rfl rfl rfl rfl ?_
        refine wp_iload_n 40 dX7_then_39 rfl rfl ?_
        have c8 := H.1; replace H := H.2
        refine wp_iald 41 dX7_then_40 rfl kd_4 c8 ?_
        refine wp_istore 43 dX7_then_41 rfl (Nat.le_of_ble_eq_true rfl) rfl ?_
        refine wp_iconst (0 : Int32) 44 dX7_then_43 kiconst_0 rfl ?_
        refine wp_istore 46 dX7_then_44 rfl (Nat.le_of_ble_eq_true rfl) rfl ?_
        exact H
      · replace H := H.2 c7
        refine wp_aload_n 27 dX7_then_26 rfl rfl ?_
        refine wp_iconst (1 : Int32) 28 dX7_then_27 kiconst_1 rfl ?_
        have c9 := H.1; replace H := H.2
        refine wp_cV (d - 1) 1 [.int (1 : Int32)] [] 31 dX7_then_28 rfl (lk_X7_62 rfl) (by omega) kd_0 rfl rfl rfl (Nat.le_of_ble_eq_true rfl) (sp_X7_error (by omega) c9 (fun h10 eh10 => ?_))
        replace H := H h10 eh10
        exact wp_reti dX7_then_31 rfl H

theorem cg_X7_then {G : kG} {d : Nat} {Q : Int32 → kM → Prop}  {a1 : Int32} {a2 : Int32} {a3 : Int32} {h : kM} (hd : 7 ≤ d)  (H :
    (((kb ((0 : Int32) ≤ a1 ∧ a1 ≤ (48 : Int32))) = 0 →
      (vp_in (1 : Int32) 7) ∧
      ∀ h3 : kM, h3 = kErr h 87 (1 : Int32) →
      Q (-1000000000 - (1 : Int32)) h3
    ) ∧ (¬ ((kb ((0 : Int32) ≤ a1 ∧ a1 ≤ (48 : Int32))) = 0) →
      (((kb (0 ≤ a2 ∧ a2 < h 1 12)) = 0 →
        (vp_in (1 : Int32) 7) ∧
        ∀ h6 : kM, h6 = kErr h 87 (1 : Int32) →
        Q (-1000000000 - (1 : Int32)) h6
      ) ∧ (¬ ((kb (0 ≤ a2 ∧ a2 < h 1 12)) = 0) →
        ((¬ (kb (0 ≤ a3 ∧ a3 < (5 : Int32))) = 0 →
          (vp_in a2 5) ∧
          at_X7_then_46 G d Q a1 a2 a3 (h 4 (a2).toNatClampNeg) (0 : Int32) h
        ) ∧ ((kb (0 ≤ a3 ∧ a3 < (5 : Int32))) = 0 →
          (vp_in (1 : Int32) 7) ∧
          ∀ h10 : kM, h10 = kErr h 87 (1 : Int32) →
          Q (-1000000000 - (1 : Int32)) h10
        ))
      ))
    ))) : Cal G d m_X7_then [.ref 0, .int a1, .int a2, .int a3] h Q :=
  Cal.of [.ref 0, .int a1, .int a2, .int a3, .null, .null] (by decide +kernel) (Nat.le_of_ble_eq_true rfl) rfl (sg_X7_then_0 hd  H)

theorem sg_X7_then_46 {G : kG} {d : Nat} {Q : Int32 → kM → Prop}  {v1 : Int32} {v2 : Int32} {v3 : Int32} {v4 : Int32} {v5 : Int32} {h : kM} (hd : 7 ≤ d)  (H :
    ((v1 ≤ v5 →
      Cal G (d - 1) m_X2_shipFact [.ref 1, .int v2, .int v4, .int v3] h (fun x2 h3 =>
        Q x2 h3
      )
    ) ∧ (¬ (v1 ≤ v5) →
      Cal G (d - 1) m_X2_placeBehindHour [.ref 1, .int v2, .int v4, .int ((h 1 13) + v5)] h (fun x4 h5 =>
        at_X7_then_46 G d Q v1 v2 v3 x4 (v5 + (1 : Int32)) h5
      )
    ))) : at_X7_then_46 G d Q v1 v2 v3 v4 v5 h := by
  show Wp G d m_X7_then (kEo G d m_X7_then Q) 46 [.ref 0, .int v1, .int v2, .int v3, .int v4, .int v5] [] h
  refine wp_iload 48 dX7_then_46 rfl rfl ?_
  refine wp_iload_n 49 dX7_then_48 rfl rfl ?_
  refine wp_icmp_ge 80 52 dX7_then_49 rfl rfl ⟨fun c1 => ?_, fun c1 => ?_⟩
  · replace H := H.1 c1
    refine wp_aload_n 81 dX7_then_80 rfl rfl ?_
    refine wp_getR 1 1 84 dX7_then_81 rfl fl_X7_12 kd_0 rfl rfl rfl rfl ?_
    refine wp_iload_n 85 dX7_then_84 rfl rfl ?_
    refine wp_iload 87 dX7_then_85 rfl rfl ?_
    refine wp_iload_n 88 dX7_then_87 rfl rfl ?_
    refine wp_cV (d - 1) 3 [.int v2, .int v4, .int v3] [] 91 dX7_then_88 rfl (lk_X7_91 rfl) (by omega) kd_1 rfl rfl rfl (Nat.le_of_ble_eq_true rfl) (H.mono (fun x2 h3 H => ?_))
    exact wp_reti dX7_then_91 rfl H
  · replace H := H.2 c1
    refine wp_aload_n 53 dX7_then_52 rfl rfl ?_
    refine wp_getR 1 1 56 dX7_then_53 rfl fl_X7_12 kd_0 rfl rfl rfl rfl ?_
    refine wp_iload_n 57 dX7_then_56 rfl rfl ?_
    refine wp_iload 59 dX7_then_57 rfl rfl ?_
    refine wp_aload_n 60 dX7_then_59 rfl rfl ?_
    refine wp_getR 1 1 63 dX7_then_60 rfl fl_X7_12 kd_0 rfl rfl rfl rfl ?_
    refine wp_getI 66 dX7_then_63 rfl fl_X7_126 kd_1 rfl ?_
    refine wp_iload 68 dX7_then_66 rfl rfl ?_
    refine wp_iadd 69 dX7_then_68 rfl ?_
    refine wp_cV (d - 1) 3 [.int v2, .int v4, .int ((h 1 13) + v5)] [] 72 dX7_then_69 rfl (lk_X7_186 rfl) (by omega) kd_1 rfl rfl rfl (Nat.le_of_ble_eq_true rfl) (H.mono (fun x4 h5 H => ?_))
    refine wp_istore 74 dX7_then_72 rfl (Nat.le_of_ble_eq_true rfl) rfl ?_
    refine wp_iinc (1 : Int32) 77 dX7_then_74 rfl rfl kiconst_1 (Nat.le_of_ble_eq_true rfl) rfl ?_
    refine wp_goto 46 dX7_then_77 rfl ?_
    exact H

theorem sg_X8_then_0 {G : kG} {d : Nat} {Q : Int32 → kM → Prop}  {a1 : Int32} {a2 : Int32} {a3 : Int32} {h : kM} (hd : 9 ≤ d)  (H :
    (((kb ((0 : Int32) ≤ a1 ∧ a1 ≤ (48 : Int32))) = 0 →
      (vp_in (1 : Int32) 7) ∧
      ∀ h3 : kM, h3 = kErr h 93 (1 : Int32) →
      Q (-1000000000 - (1 : Int32)) h3
    ) ∧ (¬ ((kb ((0 : Int32) ≤ a1 ∧ a1 ≤ (48 : Int32))) = 0) →
      (((kb (0 ≤ a2 ∧ a2 ≤ h 89 0 - 1)) = 0 →
        (vp_in (1 : Int32) 7) ∧
        ∀ h6 : kM, h6 = kErr h 93 (1 : Int32) →
        Q (-1000000000 - (1 : Int32)) h6
      ) ∧ (¬ ((kb (0 ≤ a2 ∧ a2 ≤ h 89 0 - 1)) = 0) →
        ((¬ (kb ((0 : Int32) ≤ a3 ∧ a3 ≤ (4 : Int32))) = 0 →
          ∀ h8 : kM, h8 = kCp h 89 92 0 0 147 →
          Cal G (d - 1) m_X8_go [.ref 88, .int a1] h8 (fun x9 h10 =>
            Cal G (d - 1) m_X8_toldShip [.ref 88, .int a2, .int a3] h10 (fun x11 h12 =>
              ∀ h13 : kM, h13 = kCp h12 92 89 0 0 147 →
              Q x11 h13
            )
          )
        ) ∧ ((kb ((0 : Int32) ≤ a3 ∧ a3 ≤ (4 : Int32))) = 0 →
          (vp_in (1 : Int32) 7) ∧
          ∀ h15 : kM, h15 = kErr h 93 (1 : Int32) →
          Q (-1000000000 - (1 : Int32)) h15
        ))
      ))
    ))) : Wp G d m_X8_then (kEo G d m_X8_then Q) 0 [.ref 88, .int a1, .int a2, .int a3, .null] [] h := by
  refine wp_iload_n 1 dX8_then_0 rfl rfl ?_
  refine wp_iconst (0 : Int32) 2 dX8_then_1 kiconst_0 rfl ?_
  refine wp_bipush (48 : Int32) 4 dX8_then_2 kbipush_48 rfl ?_
  refine wp_cS (d - 1) 3 [.int a1, .int (0 : Int32), .int (48 : Int32)] [] 7 dX8_then_4 rfl (lk_X8_50 rfl) (by omega) rfl rfl (Nat.le_of_ble_eq_true rfl) (sp_X8_in (by omega)  ?_)
  refine wp_if_eq 27 10 dX8_then_7 rfl rfl ⟨fun c1 => ?_, fun c1 => ?_⟩
  · replace H := H.1 c1
    refine wp_aload_n 28 dX8_then_27 rfl rfl ?_
    refine wp_iconst (1 : Int32) 29 dX8_then_28 kiconst_1 rfl ?_
    have c2 := H.1; replace H := H.2
    refine wp_cV (d - 1) 1 [.int (1 : Int32)] [] 32 dX8_then_29 rfl (lk_X8_62 rfl) (by omega) kd_88 rfl rfl rfl (Nat.le_of_ble_eq_true rfl) (sp_X8_error (by omega) c2 (fun h3 eh3 => ?_))
    replace H := H h3 eh3
    exact wp_reti dX8_then_32 rfl H
  · replace H := H.2 c1
    refine wp_aload_n 11 dX8_then_10 rfl rfl ?_
    refine wp_iload_n 12 dX8_then_11 rfl rfl ?_
    refine wp_cV (d - 1) 1 [.int a2] [] 15 dX8_then_12 rfl (lk_X8_54 rfl) (by omega) kd_88 rfl rfl rfl (Nat.le_of_ble_eq_true rfl) (sp_X8_isShip (by omega)  ?_)
    refine wp_if_eq 27 18 dX8_then_15 rfl rfl ⟨fun c4 => ?_, fun c4 => ?_⟩
    · replace H := H.1 c4
      refine wp_aload_n 28 dX8_then_27 rfl rfl ?_
      refine wp_iconst (1 : Int32) 29 dX8_then_28 kiconst_1 rfl ?_
      have c5 := H.1; replace H := H.2
      refine wp_cV (d - 1) 1 [.int (1 : Int32)] [] 32 dX8_then_29 rfl (lk_X8_62 rfl) (by omega) kd_88 rfl rfl rfl (Nat.le_of_ble_eq_true rfl) (sp_X8_error (by omega) c5 (fun h6 eh6 => ?_))
      replace H := H h6 eh6
      exact wp_reti dX8_then_32 rfl H
    · replace H := H.2 c4
      refine wp_iload_n 19 dX8_then_18 rfl rfl ?_
      refine wp_iconst (0 : Int32) 20 dX8_then_19 kiconst_0 rfl ?_
      refine wp_iconst (4 : Int32) 21 dX8_then_20 kiconst_4 rfl ?_
      refine wp_cS (d - 1) 3 [.int a3, .int (0 : Int32), .int (4 : Int32)] [] 24 dX8_then_21 rfl (lk_X8_50 rfl) (by omega) rfl rfl (Nat.le_of_ble_eq_true rfl) (sp_X8_in (by omega)  ?_)
      refine wp_if_ne 33 27 dX8_then_24 rfl rfl ⟨fun c7 => ?_, fun c7 => ?_⟩
      · replace H := H.1 c7
        refine wp_aload_n 34 dX8_then_33 rfl rfl ?_
        refine wp_iconst (0 : Int32) 35 dX8_then_34 kiconst_0 rfl ?_
        refine wp_cV (d - 1) 1 [.int (0 : Int32)] [] 38 dX8_then_35 rfl (lk_X8_200 rfl) (by omega) kd_88 rfl rfl rfl (Nat.le_of_ble_eq_true rfl) (sp_X8_layDown (by omega)  (fun h8 eh8 => ?_))
        replace H := H h8 eh8
        refine wp_aload_n 39 dX8_then_38 rfl rfl ?_
        refine wp_iload_n 40 dX8_then_39 rfl rfl ?_
        refine wp_cV (d - 1) 1 [.int a1] [] 43 dX8_then_40 rfl (lk_X8_190 rfl) (by omega) kd_88 rfl rfl rfl (Nat.le_of_ble_eq_true rfl) (H.mono (fun x9 h10 H => ?_))
        refine wp_aload_n 44 dX8_then_43 rfl rfl ?_
        refine wp_iload_n 45 dX8_then_44 rfl rfl ?_
        refine wp_iload_n 46 dX8_then_45 rfl rfl ?_
        refine wp_cV (d - 1) 2 [.int a2, .int a3] [] 49 dX8_then_46 rfl (lk_X8_161 rfl) (by omega) kd_88 rfl rfl rfl (Nat.le_of_ble_eq_true rfl) (H.mono (fun x11 h12 H => ?_))
        refine wp_istore 51 dX8_then_49 rfl (Nat.le_of_ble_eq_true rfl) rfl ?_
        refine wp_aload_n 52 dX8_then_51 rfl rfl ?_
        refine wp_iconst (0 : Int32) 53 dX8_then_52 kiconst_0 rfl ?_
        refine wp_cV (d - 1) 1 [.int (0 : Int32)] [] 56 dX8_then_53 rfl (lk_X8_203 rfl) (by omega) kd_88 rfl rfl rfl (Nat.le_of_ble_eq_true rfl) (sp_X8_layBack (by omega)  (fun h13 eh13 => ?_))
        replace H := H h13 eh13
        refine wp_iload 58 dX8_then_56 rfl rfl ?_
        exact wp_reti dX8_then_58 rfl H
      · replace H := H.2 c7
        refine wp_aload_n 28 dX8_then_27 rfl rfl ?_
        refine wp_iconst (1 : Int32) 29 dX8_then_28 kiconst_1 rfl ?_
        have c14 := H.1; replace H := H.2
        refine wp_cV (d - 1) 1 [.int (1 : Int32)] [] 32 dX8_then_29 rfl (lk_X8_62 rfl) (by omega) kd_88 rfl rfl rfl (Nat.le_of_ble_eq_true rfl) (sp_X8_error (by omega) c14 (fun h15 eh15 => ?_))
        replace H := H h15 eh15
        exact wp_reti dX8_then_32 rfl H

theorem cg_X8_then {G : kG} {d : Nat} {Q : Int32 → kM → Prop}  {a1 : Int32} {a2 : Int32} {a3 : Int32} {h : kM} (hd : 9 ≤ d)  (H :
    (((kb ((0 : Int32) ≤ a1 ∧ a1 ≤ (48 : Int32))) = 0 →
      (vp_in (1 : Int32) 7) ∧
      ∀ h3 : kM, h3 = kErr h 93 (1 : Int32) →
      Q (-1000000000 - (1 : Int32)) h3
    ) ∧ (¬ ((kb ((0 : Int32) ≤ a1 ∧ a1 ≤ (48 : Int32))) = 0) →
      (((kb (0 ≤ a2 ∧ a2 ≤ h 89 0 - 1)) = 0 →
        (vp_in (1 : Int32) 7) ∧
        ∀ h6 : kM, h6 = kErr h 93 (1 : Int32) →
        Q (-1000000000 - (1 : Int32)) h6
      ) ∧ (¬ ((kb (0 ≤ a2 ∧ a2 ≤ h 89 0 - 1)) = 0) →
        ((¬ (kb ((0 : Int32) ≤ a3 ∧ a3 ≤ (4 : Int32))) = 0 →
          ∀ h8 : kM, h8 = kCp h 89 92 0 0 147 →
          Cal G (d - 1) m_X8_go [.ref 88, .int a1] h8 (fun x9 h10 =>
            Cal G (d - 1) m_X8_toldShip [.ref 88, .int a2, .int a3] h10 (fun x11 h12 =>
              ∀ h13 : kM, h13 = kCp h12 92 89 0 0 147 →
              Q x11 h13
            )
          )
        ) ∧ ((kb ((0 : Int32) ≤ a3 ∧ a3 ≤ (4 : Int32))) = 0 →
          (vp_in (1 : Int32) 7) ∧
          ∀ h15 : kM, h15 = kErr h 93 (1 : Int32) →
          Q (-1000000000 - (1 : Int32)) h15
        ))
      ))
    ))) : Cal G d m_X8_then [.ref 88, .int a1, .int a2, .int a3] h Q :=
  Cal.of [.ref 88, .int a1, .int a2, .int a3, .null] (by decide +kernel) (Nat.le_of_ble_eq_true rfl) rfl (sg_X8_then_0 hd  H)

theorem lp_then (hd : 7 ≤ d) {N p : Nat} {what : Int32} {g : Nat → Int32} {n H f w : Nat} (hS : kSRn (kVw h 1) g n H f w) (hp : p < n) (hN : N ≤ 48) (hH : H ≤ 9999) (kk : ∀ h1, kS1 1 h h1 → Q (kSf (kVw h 1) p (kSh (kVw h 1) p N) what) h1) : ∀ (m i : Nat) (h1 : kM), i + m = N → kS1 1 h h1 → at_X7_then_46 G d Q (nI N) (nI p) what (kPl (kSh (kVw h 1) p i)) (nI i) h1 := by
  have hn := hS.1.1
  intro m
  induction m with
  | zero =>
    intro i h1 hi q
    have hi2 : i = N := by omega
    subst hi2
    have l := kSh_pl hS hp (i := i) (by omega)
    refine sg_X7_then_46 hd ⟨fun _ => ?_, fun z => absurd (nI_le (Nat.le_refl _) (by omega)) z⟩
    refine sp_X2_shipFact (d := d - 1) (by omega) kSea_is1 (by omega) l.2.1 l.2.2 (q.txt (o := 14) (Or.inr rfl) hS.ok.2.2) (fun h2 q2 => ?_)
    rw [kSf_eq q.eq]
    exact kk h2 (q.tr q2)
  | succ m ih =>
    intro i h1 hi q
    refine sg_X7_then_46 hd ⟨fun z => absurd z (ltn (nI_lt (by omega) (by omega))), fun _ => ?_⟩
    refine kBehind (d := d - 1) (by omega) hS hp (by omega) q (fun h2 q2 => ?_)
    rw [nI_1]
    exact ih (i + 1) h2 (by omega) q2
theorem st_then (hd : 9 ≤ d) (hR : kRel h) (a1 a2 a3 : Int32) : kStp G d m_X7_then m_X8_then [.int a1, .int a2, .int a3] h := by
  obtain ⟨n, H, f, w, hS, hH⟩ := hR.n
  obtain ⟨hn, n1, n2⟩ := hS.1
  have n1 : h 1 12 = nI n := n1
  by_cases hv : 0 ≤ a1 ∧ a1 ≤ 48
  · by_cases hc : 0 ≤ a2 ∧ a2 < nI n
    · by_cases hw : 0 ≤ a3 ∧ a3 < 5
      · obtain ⟨p, hp, rfl⟩ := iI (n := n) (by omega) hc.1 hc.2
        obtain ⟨N, hN, rfl⟩ := i48 hv
        have hw4 := i4.mpr hw
        have l := kSh_pl hS hp (i := 0) (by omega)
        have l0 : h 4 p = kPl (kSh (kVw h 1) p 0) := l.1
        refine cg_X7_then (by omega) ⟨fun q => absurd hv (kb_0.mp q), fun _ => ⟨fun q => absurd (by rw [n1]; exact hc) (kb_0.mp q), fun _ => ⟨fun _ => ⟨vp_in_nI (by omega) (by decide), ?_⟩, fun q => absurd hw (kb_0.mp q)⟩⟩⟩
        rw [nI_clamp (by omega), l0]
        refine lp_then (by omega) hS hp hN hH (fun h1 q1 => ?_) N 0 h (by omega) kS1.rf
        have o89 : h1 89 = h 89 := q1 89 (by decide) (by decide)
        refine cg_X8_then hd ⟨fun q => absurd hv (kb_0.mp q), fun _ => ⟨fun q => absurd (by rw [o89, n2]; exact (iM (by omega)).mpr hc) (kb_0.mp q), fun _ => ⟨fun _ h2 e2 => ?_, fun q => absurd hw4 (kb_0.mp q)⟩⟩⟩
        have g2 : h2 89 = h 89 := by rw [e2, kCp_ne (by decide), o89]
        refine sp_X8_goI (d := d - 1) (by omega) (i0 := 0) (by omega) (by omega) (kAh.start g2 hS) (fun h3 b3 => ?_)
        rw [Nat.zero_add] at b3
        refine sp_X8_toldShip (d := d - 1) (by omega) b3.2.2 hp hw4 (fun h4 q4 h5 e5 => ⟨?_, hR.ahead q1 e2 (b3.s2 q4) e5⟩)
        exact (kSf_N N p _ _).symm
      · refine cg_X7_then (by omega) ⟨fun q => absurd hv (kb_0.mp q), fun _ => ⟨fun q => absurd (by rw [n1]; exact hc) (kb_0.mp q), fun _ => ⟨fun q => absurd (kb_n0.mp q) hw, fun _ => ⟨kin7 (n := 1) (by decide), fun h1 e1 => ?_⟩⟩⟩⟩
        have x0 : h1 89 0 = nI n := by rw [e1, kErr_ne (by decide)]; exact n2
        exact cg_X8_then hd ⟨fun q => absurd hv (kb_0.mp q), fun _ => ⟨fun q => absurd (by rw [x0]; exact (iM (by omega)).mpr hc) (kb_0.mp q), fun _ => ⟨fun q => absurd (i4.mp (kb_n0.mp q)) hw, fun _ => ⟨kin7 (n := 1) (by decide), kErrs hR h1 e1⟩⟩⟩⟩
    · refine cg_X7_then (by omega) ⟨fun q => absurd hv (kb_0.mp q), fun _ => ⟨fun _ => ⟨kin7 (n := 1) (by decide), fun h1 e1 => ?_⟩, fun q => absurd (by have := kb_n0.mp q; rw [n1] at this; exact this) hc⟩⟩
      have x0 : h1 89 0 = nI n := by rw [e1, kErr_ne (by decide)]; exact n2
      exact cg_X8_then hd ⟨fun q => absurd hv (kb_0.mp q), fun _ => ⟨fun _ => ⟨kin7 (n := 1) (by decide), kErrs hR h1 e1⟩, fun q => absurd ((iM (by omega)).mp (by have := kb_n0.mp q; rw [x0] at this; exact this)) hc⟩⟩
  · refine cg_X7_then (by omega) ⟨fun _ => ⟨kin7 (n := 1) (by decide), fun h1 e1 => ?_⟩, fun q => absurd (kb_n0.mp q) hv⟩
    exact cg_X8_then hd ⟨fun _ => ⟨kin7 (n := 1) (by decide), kErrs hR h1 e1⟩, fun q => absurd (kb_n0.mp q) hv⟩
/-- knots that are tied, of all ships -/
def kTa (v : kM) (n : Nat) : Int32 := kSum (fun p => kTied (v 8) (nI p)) 0 n
def at_X2_tiedOfAll_4 (G : kG) (d : Nat) (Q : Int32 → kM → Prop) (b : Nat) (v1 : Int32) (v2 : Int32) (h : kM) : Prop := Wp G d m_X2_tiedOfAll (kEo G d m_X2_tiedOfAll Q) 4 [.ref b, .int v1, .int v2] [] h
theorem sg_X2_tiedOfAll_0 {G : kG} {d : Nat} {Q : Int32 → kM → Prop} {b : Nat}  {h : kM} (hd : 2 ≤ d) (k_b : kSea b) (H :
    at_X2_tiedOfAll_4 G d Q b (0 : Int32) (0 : Int32) h) : Wp G d m_X2_tiedOfAll (kEo G d m_X2_tiedOfAll Q) 0 [.ref b, .null, .null] [] h := by
  refine wp_iconst (0 : Int32) 1 dX2_tiedOfAll_0 kiconst_0 rfl ?_
  refine wp_istore_n 2 dX2_tiedOfAll_1 rfl (Nat.le_of_ble_eq_true rfl) rfl ?_
  refine wp_iconst (0 : Int32) 3 dX2_tiedOfAll_2 kiconst_0 rfl ?_
  refine wp_istore_n 4 dX2_tiedOfAll_3 rfl (Nat.le_of_ble_eq_true rfl) rfl ?_
  exact H

theorem cg_X2_tiedOfAll {G : kG} {d : Nat} {Q : Int32 → kM → Prop} {b : Nat}  {h : kM} (hd : 2 ≤ d) (k_b : kSea b) (H :
    at_X2_tiedOfAll_4 G d Q b (0 : Int32) (0 : Int32) h) : Cal G d m_X2_tiedOfAll [.ref b] h Q :=
  Cal.of [.ref b, .null, .null] (by decide +kernel) (Nat.le_of_ble_eq_true rfl) rfl (sg_X2_tiedOfAll_0 hd k_b H)

theorem sg_X2_tiedOfAll_4 {G : kG} {d : Nat} {Q : Int32 → kM → Prop} {b : Nat} {v1 : Int32} {v2 : Int32} {h : kM} (hd : 2 ≤ d) (k_b : kSea b) (H :
    (((h b 12) ≤ v2 →
      Q v1 h
    ) ∧ (¬ ((h b 12) ≤ v2) →
      (vp_in v2 5) ∧
      at_X2_tiedOfAll_4 G d Q b (v1 + (kTied (h (b + 8)) v2)) (v2 + (1 : Int32)) h
    ))) : at_X2_tiedOfAll_4 G d Q b v1 v2 h := by
  show Wp G d m_X2_tiedOfAll (kEo G d m_X2_tiedOfAll Q) 4 [.ref b, .int v1, .int v2] [] h
  refine wp_iload_n 5 dX2_tiedOfAll_4 rfl rfl ?_
  refine wp_aload_n 6 dX2_tiedOfAll_5 rfl rfl ?_
  refine wp_getI 9 dX2_tiedOfAll_6 rfl fl_X2_66 (kSea_0 k_b) rfl ?_
  refine wp_icmp_ge 26 12 dX2_tiedOfAll_9 rfl rfl ⟨fun c1 => ?_, fun c1 => ?_⟩
  · replace H := H.1 c1
    refine wp_iload_n 27 dX2_tiedOfAll_26 rfl rfl ?_
    exact wp_reti dX2_tiedOfAll_27 rfl H
  · replace H := H.2 c1
    refine wp_iload_n 13 dX2_tiedOfAll_12 rfl rfl ?_
    refine wp_aload_n 14 dX2_tiedOfAll_13 rfl rfl ?_
    refine wp_iload_n 15 dX2_tiedOfAll_14 rfl rfl ?_
    have c2 := H.1; replace H := H.2
    refine wp_cV (d - 1) 1 [.int v2] [.int v1] 18 dX2_tiedOfAll_15 rfl (lk_X2_93 rfl) (by omega) (kSea_0 k_b) rfl rfl rfl (Nat.le_of_ble_eq_true rfl) (sp_X2_tiedOf (by omega) k_b c2 ?_)
    refine wp_iadd 19 dX2_tiedOfAll_18 rfl ?_
    refine wp_istore_n 20 dX2_tiedOfAll_19 rfl (Nat.le_of_ble_eq_true rfl) rfl ?_
    refine wp_iinc (1 : Int32) 23 dX2_tiedOfAll_20 rfl rfl kiconst_1 (Nat.le_of_ble_eq_true rfl) rfl ?_
    refine wp_goto 4 dX2_tiedOfAll_23 rfl ?_
    exact H

def at_X8_allTied_4 (G : kG) (d : Nat) (Q : Int32 → kM → Prop)  (v1 : Int32) (v2 : Int32) (h : kM) : Prop := Wp G d m_X8_allTied (kEo G d m_X8_allTied Q) 4 [.ref 88, .int v1, .int v2] [] h
theorem sg_X8_allTied_0 {G : kG} {d : Nat} {Q : Int32 → kM → Prop}   {h : kM} (hd : 4 ≤ d)  (H :
    at_X8_allTied_4 G d Q (0 : Int32) (0 : Int32) h) : Wp G d m_X8_allTied (kEo G d m_X8_allTied Q) 0 [.ref 88, .null, .null] [] h := by
  refine wp_iconst (0 : Int32) 1 dX8_allTied_0 kiconst_0 rfl ?_
  refine wp_istore_n 2 dX8_allTied_1 rfl (Nat.le_of_ble_eq_true rfl) rfl ?_
  refine wp_iconst (0 : Int32) 3 dX8_allTied_2 kiconst_0 rfl ?_
  refine wp_istore_n 4 dX8_allTied_3 rfl (Nat.le_of_ble_eq_true rfl) rfl ?_
  exact H

theorem cg_X8_allTied {G : kG} {d : Nat} {Q : Int32 → kM → Prop}   {h : kM} (hd : 4 ≤ d)  (H :
    at_X8_allTied_4 G d Q (0 : Int32) (0 : Int32) h) : Cal G d m_X8_allTied [.ref 88] h Q :=
  Cal.of [.ref 88, .null, .null] (by decide +kernel) (Nat.le_of_ble_eq_true rfl) rfl (sg_X8_allTied_0 hd  H)

theorem sg_X8_allTied_4 {G : kG} {d : Nat} {Q : Int32 → kM → Prop}  {v1 : Int32} {v2 : Int32} {h : kM} (hd : 4 ≤ d)  (H :
    (((h 89 0) ≤ v2 →
      Q v1 h
    ) ∧ (¬ ((h 89 0) ≤ v2) →
      Cal G (d - 1) m_X8_tiedOf [.ref 88, .int v2] h (fun x2 h3 =>
        at_X8_allTied_4 G d Q (v1 + x2) (v2 + (1 : Int32)) h3
      )
    ))) : at_X8_allTied_4 G d Q v1 v2 h := by
  show Wp G d m_X8_allTied (kEo G d m_X8_allTied Q) 4 [.ref 88, .int v1, .int v2] [] h
  refine wp_iload_n 5 dX8_allTied_4 rfl rfl ?_
  refine wp_aload_n 6 dX8_allTied_5 rfl rfl ?_
  refine wp_getR 1 89 9 dX8_allTied_6 rfl fl_X8_7 kd_88 rfl rfl rfl rfl ?_
  refine wp_iconst (0 : Int32) 10 dX8_allTied_9 kiconst_0 rfl ?_
  refine wp_iald 11 dX8_allTied_10 rfl kd_89 (by unfold vp_in; decide) ?_
  refine wp_icmp_ge 28 14 dX8_allTied_11 rfl rfl ⟨fun c1 => ?_, fun c1 => ?_⟩
  · replace H := H.1 c1
    refine wp_iload_n 29 dX8_allTied_28 rfl rfl ?_
    exact wp_reti dX8_allTied_29 rfl H
  · replace H := H.2 c1
    refine wp_iload_n 15 dX8_allTied_14 rfl rfl ?_
    refine wp_aload_n 16 dX8_allTied_15 rfl rfl ?_
    refine wp_iload_n 17 dX8_allTied_16 rfl rfl ?_
    refine wp_cV (d - 1) 1 [.int v2] [.int v1] 20 dX8_allTied_17 rfl (lk_X8_155 rfl) (by omega) kd_88 rfl rfl rfl (Nat.le_of_ble_eq_true rfl) (H.mono (fun x2 h3 H => ?_))
    refine wp_iadd 21 dX8_allTied_20 rfl ?_
    refine wp_istore_n 22 dX8_allTied_21 rfl (Nat.le_of_ble_eq_true rfl) rfl ?_
    refine wp_iinc (1 : Int32) 25 dX8_allTied_22 rfl rfl kiconst_1 (Nat.le_of_ble_eq_true rfl) rfl ?_
    refine wp_goto 4 dX8_allTied_25 rfl ?_
    exact H

theorem sp_X2_tiedOfAll (hd : 2 ≤ d) {b : Nat} (hb : kSea b) {n : Nat} (hn : n ≤ 5) (hns : h b 12 = nI n) (k : Q (kTa (kVw h b) n) h) : Cal G d m_X2_tiedOfAll [.ref b] h Q := by
  have lp : ∀ (m i : Nat), i + m = n → at_X2_tiedOfAll_4 G d Q b (kTa (kVw h b) i) (nI i) h := by
    intro m
    induction m with
    | zero =>
      intro i hi
      have hi2 : i = n := by omega
      subst hi2
      exact sg_X2_tiedOfAll_4 hd hb ⟨fun _ => k, fun z => absurd (by rw [hns]; exact nI_le (Nat.le_refl _) (by omega)) z⟩
    | succ m ih =>
      intro i hi
      have st : at_X2_tiedOfAll_4 G d Q b (kTa (kVw h b) i + kTied (h (b + 8)) (nI i)) (nI (i + 1)) h := ih (i + 1) (by omega)
      refine sg_X2_tiedOfAll_4 hd hb ⟨fun z => absurd z (by rw [hns]; exact ltn (nI_lt (by omega) (by omega))), fun _ => ⟨vp_in_nI (by omega) (by decide), ?_⟩⟩
      rw [nI_1]
      exact st
  exact cg_X2_tiedOfAll hd hb (lp n 0 (by omega))
theorem sp_X8_allTied (hd : 4 ≤ d) {v : kM} {n H f w : Nat} (hS : kSRn v (h 89) n H f w) (k : Q (kTa v n) h) : Cal G d m_X8_allTied [.ref 88] h Q := by
  have hn := hS.1.1
  have lp : ∀ (m i : Nat), i + m = n → at_X8_allTied_4 G d Q (kTa v i) (nI i) h := by
    intro m
    induction m with
    | zero =>
      intro i hi
      have hi2 : i = n := by omega
      subst hi2
      exact sg_X8_allTied_4 hd ⟨fun _ => k, fun z => absurd (by rw [hS.1.2.2]; exact nI_le (Nat.le_refl _) (by omega)) z⟩
    | succ m ih =>
      intro i hi
      have st : at_X8_allTied_4 G d Q (kTa v i + kTied (v 8) (nI i)) (nI (i + 1)) h := ih (i + 1) (by omega)
      refine sg_X8_allTied_4 hd ⟨fun z => absurd z (by rw [hS.1.2.2]; exact ltn (nI_lt (by omega) (by omega))), fun _ => ?_⟩
      refine sp_X8_tiedOf (d := d - 1) (by omega) hS (by omega) ?_
      rw [nI_1]
      exact st
  exact cg_X8_allTied hd (lp n 0 (by omega))
theorem sg_X2_tally_0 {G : kG} {d : Nat} {Q : Int32 → kM → Prop} {b : Nat} {a1 : Int32} {h : kM} (hd : 3 ≤ d) (k_b : kSea b) (H :
    ((a1 = (0 : Int32) →
      Q (h b 12) h
    ) ∧ (¬ a1 = (0 : Int32) →
    ((a1 = (1 : Int32) →
      Q (h b 13) h
    ) ∧ (¬ a1 = (1 : Int32) →
    ((a1 = (2 : Int32) →
      (((kb (kDay (h b 13))) = 0 →
        Q (0 : Int32) h
      ) ∧ (¬ ((kb (kDay (h b 13))) = 0) →
        Q (1 : Int32) h
      ))
    ) ∧ (¬ a1 = (2 : Int32) →
    ((a1 = (3 : Int32) →
      Cal G (d - 1) m_X2_shipsThatAre [.ref b, .int (2 : Int32)] h (fun x5 h6 =>
        Q x5 h6
      )
    ) ∧ (¬ a1 = (3 : Int32) →
    ((a1 = (4 : Int32) →
      Cal G (d - 1) m_X2_shipsThatAre [.ref b, .int (1 : Int32)] h (fun x8 h9 =>
        Q x8 h9
      )
    ) ∧ (¬ a1 = (4 : Int32) →
    ((a1 = (5 : Int32) →
      Cal G (d - 1) m_X2_tiedOfAll [.ref b] h (fun x11 h12 =>
        Q x11 h12
      )
    ) ∧ (¬ a1 = (5 : Int32) →
    ((a1 = (6 : Int32) →
      Q (h b 14) h
    ) ∧ (¬ a1 = (6 : Int32) →
    ((a1 = (7 : Int32) →
      Q (h b 15) h
    ) ∧ (¬ a1 = (7 : Int32) →
    ((a1 = (9 : Int32) →
      Q (h b 16) h
    ) ∧ (¬ a1 = (9 : Int32) →
    ((a1 = (10 : Int32) →
      Q (h (b + 2) 0) h
    ) ∧ (¬ a1 = (10 : Int32) →
      Q (h (b + 2) 1) h
    ))))))))))))))))))))) : Wp G d m_X2_tally (kEo G d m_X2_tally Q) 0 [.ref b, .int a1] [] h := by
  refine wp_iload_n 1 dX2_tally_0 rfl rfl ?_
  refine wp_table 125 [((0 : Int32), 60), ((1 : Int32), 65), ((2 : Int32), 70), ((3 : Int32), 86), ((4 : Int32), 92), ((5 : Int32), 98), ((6 : Int32), 103), ((7 : Int32), 108), ((9 : Int32), 113), ((10 : Int32), 118)] dX2_tally_1 rfl (by decide) ?_
  refine ⟨fun c1 => ?_, fun c1 => ?_⟩
  · replace H := H.1 c1
    refine wp_aload_n 61 dX2_tally_60 rfl rfl ?_
    refine wp_getI 64 dX2_tally_61 rfl fl_X2_66 (kSea_0 k_b) rfl ?_
    exact wp_reti dX2_tally_64 rfl H
  · replace H := H.2 c1
    refine ⟨fun c2 => ?_, fun c2 => ?_⟩
    · replace H := H.1 c2
      refine wp_aload_n 66 dX2_tally_65 rfl rfl ?_
      refine wp_getI 69 dX2_tally_66 rfl fl_X2_69 (kSea_0 k_b) rfl ?_
      exact wp_reti dX2_tally_69 rfl H
    · replace H := H.2 c2
      refine ⟨fun c4 => ?_, fun c4 => ?_⟩
      · replace H := H.1 c4
        refine wp_aload_n 71 dX2_tally_70 rfl rfl ?_
        refine wp_getI 74 dX2_tally_71 rfl fl_X2_69 (kSea_0 k_b) rfl ?_
        refine wp_cN (d - 1) 1 [.int (h b 13)] [] 77 dX2_tally_74 rfl (lk_X2_105 rfl) (by omega) rfl rfl (Nat.le_of_ble_eq_true rfl) (sp_X7_isDay (by omega)  ?_)
        refine wp_if_eq 84 80 dX2_tally_77 rfl rfl ⟨fun c3 => ?_, fun c3 => ?_⟩
        · replace H := H.1 c3
          refine wp_iconst (0 : Int32) 85 dX2_tally_84 kiconst_0 rfl ?_
          exact wp_reti dX2_tally_85 rfl H
        · replace H := H.2 c3
          refine wp_iconst (1 : Int32) 81 dX2_tally_80 kiconst_1 rfl ?_
          refine wp_goto 85 dX2_tally_81 rfl ?_
          exact wp_reti dX2_tally_85 rfl H
      · replace H := H.2 c4
        refine ⟨fun c7 => ?_, fun c7 => ?_⟩
        · replace H := H.1 c7
          refine wp_aload_n 87 dX2_tally_86 rfl rfl ?_
          refine wp_iconst (2 : Int32) 88 dX2_tally_87 kiconst_2 rfl ?_
          refine wp_cV (d - 1) 1 [.int (2 : Int32)] [] 91 dX2_tally_88 rfl (lk_X2_109 rfl) (by omega) (kSea_0 k_b) rfl rfl rfl (Nat.le_of_ble_eq_true rfl) (H.mono (fun x5 h6 H => ?_))
          exact wp_reti dX2_tally_91 rfl H
        · replace H := H.2 c7
          refine ⟨fun c10 => ?_, fun c10 => ?_⟩
          · replace H := H.1 c10
            refine wp_aload_n 93 dX2_tally_92 rfl rfl ?_
            refine wp_iconst (1 : Int32) 94 dX2_tally_93 kiconst_1 rfl ?_
            refine wp_cV (d - 1) 1 [.int (1 : Int32)] [] 97 dX2_tally_94 rfl (lk_X2_109 rfl) (by omega) (kSea_0 k_b) rfl rfl rfl (Nat.le_of_ble_eq_true rfl) (H.mono (fun x8 h9 H => ?_))
            exact wp_reti dX2_tally_97 rfl H
          · replace H := H.2 c10
            refine ⟨fun c13 => ?_, fun c13 => ?_⟩
            · replace H := H.1 c13
              refine wp_aload_n 99 dX2_tally_98 rfl rfl ?_
              refine wp_cV (d - 1) 0 [] [] 102 dX2_tally_99 rfl (lk_X2_112 rfl) (by omega) (kSea_0 k_b) rfl rfl rfl (Nat.le_of_ble_eq_true rfl) (H.mono (fun x11 h12 H => ?_))
              exact wp_reti dX2_tally_102 rfl H
            · replace H := H.2 c13
              refine ⟨fun c14 => ?_, fun c14 => ?_⟩
              · replace H := H.1 c14
                refine wp_aload_n 104 dX2_tally_103 rfl rfl ?_
                refine wp_getI 107 dX2_tally_104 rfl fl_X2_72 (kSea_0 k_b) rfl ?_
                exact wp_reti dX2_tally_107 rfl H
              · replace H := H.2 c14
                refine ⟨fun c15 => ?_, fun c15 => ?_⟩
                · replace H := H.1 c15
                  refine wp_aload_n 109 dX2_tally_108 rfl rfl ?_
                  refine wp_getI 112 dX2_tally_109 rfl fl_X2_75 (kSea_0 k_b) rfl ?_
                  exact wp_reti dX2_tally_112 rfl H
                · replace H := H.2 c15
                  refine ⟨fun c16 => ?_, fun c16 => ?_⟩
                  · replace H := H.1 c16
                    refine wp_aload_n 114 dX2_tally_113 rfl rfl ?_
                    refine wp_getI 117 dX2_tally_114 rfl fl_X2_52 (kSea_0 k_b) rfl ?_
                    exact wp_reti dX2_tally_117 rfl H
                  · replace H := H.2 c16
                    refine ⟨fun c17 => ?_, fun c17 => ?_⟩
                    · replace H := H.1 c17
                      refine wp_aload_n 119 dX2_tally_118 rfl rfl ?_
                      refine wp_getR 2 (b + 2) 122 dX2_tally_119 rfl fl_X2_15 (kSea_0 k_b) rfl rfl rfl rfl ?_
                      refine wp_iconst (0 : Int32) 123 dX2_tally_122 kiconst_0 rfl ?_
                      refine wp_iald 124 dX2_tally_123 rfl (kSea_2 k_b) (by unfold vp_in; decide) ?_
                      exact wp_reti dX2_tally_124 rfl H
                    · replace H := H.2 c17
                      show Wp _ _ _ _ _ _ _ _
                      refine wp_aload_n 126 dX2_tally_125 rfl rfl ?_
                      refine wp_getR 2 (b + 2) 129 dX2_tally_126 rfl fl_X2_15 (kSea_0 k_b) rfl rfl rfl rfl ?_
                      refine wp_iconst (1 : Int32) 130 dX2_tally_129 kiconst_1 rfl ?_
                      refine wp_iald 131 dX2_tally_130 rfl (kSea_2 k_b) (by unfold vp_in; decide) ?_
                      exact wp_reti dX2_tally_131 rfl H

theorem cg_X2_tally {G : kG} {d : Nat} {Q : Int32 → kM → Prop} {b : Nat} {a1 : Int32} {h : kM} (hd : 3 ≤ d) (k_b : kSea b) (H :
    ((a1 = (0 : Int32) →
      Q (h b 12) h
    ) ∧ (¬ a1 = (0 : Int32) →
    ((a1 = (1 : Int32) →
      Q (h b 13) h
    ) ∧ (¬ a1 = (1 : Int32) →
    ((a1 = (2 : Int32) →
      (((kb (kDay (h b 13))) = 0 →
        Q (0 : Int32) h
      ) ∧ (¬ ((kb (kDay (h b 13))) = 0) →
        Q (1 : Int32) h
      ))
    ) ∧ (¬ a1 = (2 : Int32) →
    ((a1 = (3 : Int32) →
      Cal G (d - 1) m_X2_shipsThatAre [.ref b, .int (2 : Int32)] h (fun x5 h6 =>
        Q x5 h6
      )
    ) ∧ (¬ a1 = (3 : Int32) →
    ((a1 = (4 : Int32) →
      Cal G (d - 1) m_X2_shipsThatAre [.ref b, .int (1 : Int32)] h (fun x8 h9 =>
        Q x8 h9
      )
    ) ∧ (¬ a1 = (4 : Int32) →
    ((a1 = (5 : Int32) →
      Cal G (d - 1) m_X2_tiedOfAll [.ref b] h (fun x11 h12 =>
        Q x11 h12
      )
    ) ∧ (¬ a1 = (5 : Int32) →
    ((a1 = (6 : Int32) →
      Q (h b 14) h
    ) ∧ (¬ a1 = (6 : Int32) →
    ((a1 = (7 : Int32) →
      Q (h b 15) h
    ) ∧ (¬ a1 = (7 : Int32) →
    ((a1 = (9 : Int32) →
      Q (h b 16) h
    ) ∧ (¬ a1 = (9 : Int32) →
    ((a1 = (10 : Int32) →
      Q (h (b + 2) 0) h
    ) ∧ (¬ a1 = (10 : Int32) →
      Q (h (b + 2) 1) h
    ))))))))))))))))))))) : Cal G d m_X2_tally [.ref b, .int a1] h Q :=
  Cal.of [.ref b, .int a1] (by decide +kernel) (Nat.le_of_ble_eq_true rfl) rfl (sg_X2_tally_0 hd k_b H)

theorem sg_X7_count_0 {G : kG} {d : Nat} {Q : Int32 → kM → Prop}  {a1 : Int32} {h : kM} (hd : 4 ≤ d)  (H :
    ((¬ (kb (0 ≤ a1 ∧ a1 < (12 : Int32))) = 0 →
      ((¬ a1 = (8 : Int32) →
        Cal G (d - 1) m_X2_tally [.ref 1, .int a1] h (fun x3 h4 =>
          Q x3 h4
        )
      ) ∧ (a1 = (8 : Int32) →
        Q (h 76 1) h
      ))
    ) ∧ ((kb (0 ≤ a1 ∧ a1 < (12 : Int32))) = 0 →
      (vp_in (1 : Int32) 7) ∧
      ∀ h6 : kM, h6 = kErr h 87 (1 : Int32) →
      Q (-1000000000 - (1 : Int32)) h6
    ))) : Wp G d m_X7_count (kEo G d m_X7_count Q) 0 [.ref 0, .int a1] [] h := by
  refine wp_iload_n 1 dX7_count_0 rfl rfl ?_
  refine wp_bipush (12 : Int32) 3 dX7_count_1 kbipush_12 rfl ?_
  refine wp_cS (d - 1) 2 [.int a1, .int (12 : Int32)] [] 6 dX7_count_3 rfl (lk_X7_58 rfl) (by omega) rfl rfl (Nat.le_of_ble_eq_true rfl) (sp_X7_within (by omega)  ?_)
  refine wp_if_ne 15 9 dX7_count_6 rfl rfl ⟨fun c1 => ?_, fun c1 => ?_⟩
  · replace H := H.1 c1
    refine wp_iload_n 16 dX7_count_15 rfl rfl ?_
    refine wp_bipush (8 : Int32) 18 dX7_count_16 kbipush_8 rfl ?_
    refine wp_icmp_ne 31 21 dX7_count_18 rfl rfl ⟨fun c2 => ?_, fun c2 => ?_⟩
    · replace H := H.1 c2
      refine wp_aload_n 32 dX7_count_31 rfl rfl ?_
      refine wp_getR 1 1 35 dX7_count_32 rfl fl_X7_12 kd_0 rfl rfl rfl rfl ?_
      refine wp_iload_n 36 dX7_count_35 rfl rfl ?_
      refine wp_cV (d - 1) 1 [.int a1] [] 39 dX7_count_36 rfl (lk_X7_281 rfl) (by omega) kd_1 rfl rfl rfl (Nat.le_of_ble_eq_true rfl) (H.mono (fun x3 h4 H => ?_))
      exact wp_reti dX7_count_39 rfl H
    · replace H := H.2 c2
      refine wp_aload_n 22 dX7_count_21 rfl rfl ?_
      refine wp_getR 76 76 25 dX7_count_22 rfl fl_X7_43 kd_0 rfl rfl rfl rfl ?_
      refine wp_getI 28 dX7_count_25 rfl fl_X7_247 kd_76 rfl ?_
      refine wp_goto 39 dX7_count_28 rfl ?_
      exact wp_reti dX7_count_39 rfl H
  · replace H := H.2 c1
    refine wp_aload_n 10 dX7_count_9 rfl rfl ?_
    refine wp_iconst (1 : Int32) 11 dX7_count_10 kiconst_1 rfl ?_
    have c5 := H.1; replace H := H.2
    refine wp_cV (d - 1) 1 [.int (1 : Int32)] [] 14 dX7_count_11 rfl (lk_X7_62 rfl) (by omega) kd_0 rfl rfl rfl (Nat.le_of_ble_eq_true rfl) (sp_X7_error (by omega) c5 (fun h6 eh6 => ?_))
    replace H := H h6 eh6
    exact wp_reti dX7_count_14 rfl H

theorem cg_X7_count {G : kG} {d : Nat} {Q : Int32 → kM → Prop}  {a1 : Int32} {h : kM} (hd : 4 ≤ d)  (H :
    ((¬ (kb (0 ≤ a1 ∧ a1 < (12 : Int32))) = 0 →
      ((¬ a1 = (8 : Int32) →
        Cal G (d - 1) m_X2_tally [.ref 1, .int a1] h (fun x3 h4 =>
          Q x3 h4
        )
      ) ∧ (a1 = (8 : Int32) →
        Q (h 76 1) h
      ))
    ) ∧ ((kb (0 ≤ a1 ∧ a1 < (12 : Int32))) = 0 →
      (vp_in (1 : Int32) 7) ∧
      ∀ h6 : kM, h6 = kErr h 87 (1 : Int32) →
      Q (-1000000000 - (1 : Int32)) h6
    ))) : Cal G d m_X7_count [.ref 0, .int a1] h Q :=
  Cal.of [.ref 0, .int a1] (by decide +kernel) (Nat.le_of_ble_eq_true rfl) rfl (sg_X7_count_0 hd  H)

theorem sg_X8_count_0 {G : kG} {d : Nat} {Q : Int32 → kM → Prop}  {a1 : Int32} {h : kM} (hd : 5 ≤ d)  (H :
    ((a1 = (0 : Int32) →
      Q (h 89 0) h
    ) ∧ (¬ a1 = (0 : Int32) →
    ((a1 = (1 : Int32) →
      Q (h 89 1) h
    ) ∧ (¬ a1 = (1 : Int32) →
    ((a1 = (2 : Int32) →
      (((kb (kDay (h 89 1))) = 0 →
        Q (0 : Int32) h
      ) ∧ (¬ ((kb (kDay (h 89 1))) = 0) →
        Q (1 : Int32) h
      ))
    ) ∧ (¬ a1 = (2 : Int32) →
    ((a1 = (3 : Int32) →
      Cal G (d - 1) m_X8_standing [.ref 88, .int (2 : Int32)] h (fun x5 h6 =>
        Q x5 h6
      )
    ) ∧ (¬ a1 = (3 : Int32) →
    ((a1 = (4 : Int32) →
      Cal G (d - 1) m_X8_standing [.ref 88, .int (1 : Int32)] h (fun x8 h9 =>
        Q x8 h9
      )
    ) ∧ (¬ a1 = (4 : Int32) →
    ((a1 = (5 : Int32) →
      Cal G (d - 1) m_X8_allTied [.ref 88] h (fun x11 h12 =>
        Q x11 h12
      )
    ) ∧ (¬ a1 = (5 : Int32) →
    ((a1 = (6 : Int32) →
      Q (h 89 4) h
    ) ∧ (¬ a1 = (6 : Int32) →
    ((a1 = (7 : Int32) →
      Q (h 89 5) h
    ) ∧ (¬ a1 = (7 : Int32) →
    ((a1 = (8 : Int32) →
      Q (h 88 17) h
    ) ∧ (¬ a1 = (8 : Int32) →
    ((a1 = (9 : Int32) →
      Q (h 89 6) h
    ) ∧ (¬ a1 = (9 : Int32) →
      (((kb ((10 : Int32) ≤ a1 ∧ a1 ≤ (11 : Int32))) = 0 →
        (vp_in (1 : Int32) 7) ∧
        ∀ h20 : kM, h20 = kErr h 93 (1 : Int32) →
        Q (-1000000000 - (1 : Int32)) h20
      ) ∧ (¬ ((kb ((10 : Int32) ≤ a1 ∧ a1 ≤ (11 : Int32))) = 0) →
        (vp_in (((2 : Int32) + a1) - (10 : Int32)) 481) ∧
        Q (h 89 ((((2 : Int32) + a1) - (10 : Int32))).toNatClampNeg) h
      ))
    ))))))))))))))))))))) : Wp G d m_X8_count (kEo G d m_X8_count Q) 0 [.ref 88, .int a1] [] h := by
  refine wp_iload_n 1 dX8_count_0 rfl rfl ?_
  refine wp_table 127 [((0 : Int32), 56), ((1 : Int32), 63), ((2 : Int32), 70), ((3 : Int32), 83), ((4 : Int32), 89), ((5 : Int32), 95), ((6 : Int32), 100), ((7 : Int32), 107), ((8 : Int32), 114), ((9 : Int32), 119)] dX8_count_1 rfl (by decide) ?_
  refine ⟨fun c1 => ?_, fun c1 => ?_⟩
  · replace H := H.1 c1
    refine wp_aload_n 57 dX8_count_56 rfl rfl ?_
    refine wp_getR 1 89 60 dX8_count_57 rfl fl_X8_7 kd_88 rfl rfl rfl rfl ?_
    refine wp_iconst (0 : Int32) 61 dX8_count_60 kiconst_0 rfl ?_
    refine wp_iald 62 dX8_count_61 rfl kd_89 (by unfold vp_in; decide) ?_
    exact wp_reti dX8_count_62 rfl H
  · replace H := H.2 c1
    refine ⟨fun c2 => ?_, fun c2 => ?_⟩
    · replace H := H.1 c2
      refine wp_aload_n 64 dX8_count_63 rfl rfl ?_
      refine wp_getR 1 89 67 dX8_count_64 rfl fl_X8_7 kd_88 rfl rfl rfl rfl ?_
      refine wp_iconst (1 : Int32) 68 dX8_count_67 kiconst_1 rfl ?_
      refine wp_iald 69 dX8_count_68 rfl kd_89 (by unfold vp_in; decide) ?_
      exact wp_reti dX8_count_69 rfl H
    · replace H := H.2 c2
      refine ⟨fun c4 => ?_, fun c4 => ?_⟩
      · replace H := H.1 c4
        refine wp_aload_n 71 dX8_count_70 rfl rfl ?_
        refine wp_cV (d - 1) 0 [] [] 74 dX8_count_71 rfl (lk_X8_171 rfl) (by omega) kd_88 rfl rfl rfl (Nat.le_of_ble_eq_true rfl) (sp_X8_isDay (by omega)  ?_)
        refine wp_if_eq 81 77 dX8_count_74 rfl rfl ⟨fun c3 => ?_, fun c3 => ?_⟩
        · replace H := H.1 c3
          refine wp_iconst (0 : Int32) 82 dX8_count_81 kiconst_0 rfl ?_
          exact wp_reti dX8_count_82 rfl H
        · replace H := H.2 c3
          refine wp_iconst (1 : Int32) 78 dX8_count_77 kiconst_1 rfl ?_
          refine wp_goto 82 dX8_count_78 rfl ?_
          exact wp_reti dX8_count_82 rfl H
      · replace H := H.2 c4
        refine ⟨fun c7 => ?_, fun c7 => ?_⟩
        · replace H := H.1 c7
          refine wp_aload_n 84 dX8_count_83 rfl rfl ?_
          refine wp_iconst (2 : Int32) 85 dX8_count_84 kiconst_2 rfl ?_
          refine wp_cV (d - 1) 1 [.int (2 : Int32)] [] 88 dX8_count_85 rfl (lk_X8_193 rfl) (by omega) kd_88 rfl rfl rfl (Nat.le_of_ble_eq_true rfl) (H.mono (fun x5 h6 H => ?_))
          exact wp_reti dX8_count_88 rfl H
        · replace H := H.2 c7
          refine ⟨fun c10 => ?_, fun c10 => ?_⟩
          · replace H := H.1 c10
            refine wp_aload_n 90 dX8_count_89 rfl rfl ?_
            refine wp_iconst (1 : Int32) 91 dX8_count_90 kiconst_1 rfl ?_
            refine wp_cV (d - 1) 1 [.int (1 : Int32)] [] 94 dX8_count_91 rfl (lk_X8_193 rfl) (by omega) kd_88 rfl rfl rfl (Nat.le_of_ble_eq_true rfl) (H.mono (fun x8 h9 H => ?_))
            exact wp_reti dX8_count_94 rfl H
          · replace H := H.2 c10
            refine ⟨fun c13 => ?_, fun c13 => ?_⟩
            · replace H := H.1 c13
              refine wp_aload_n 96 dX8_count_95 rfl rfl ?_
              refine wp_cV (d - 1) 0 [] [] 99 dX8_count_96 rfl (lk_X8_284 rfl) (by omega) kd_88 rfl rfl rfl (Nat.le_of_ble_eq_true rfl) (H.mono (fun x11 h12 H => ?_))
              exact wp_reti dX8_count_99 rfl H
            · replace H := H.2 c13
              refine ⟨fun c14 => ?_, fun c14 => ?_⟩
              · replace H := H.1 c14
                refine wp_aload_n 101 dX8_count_100 rfl rfl ?_
                refine wp_getR 1 89 104 dX8_count_101 rfl fl_X8_7 kd_88 rfl rfl rfl rfl ?_
                refine wp_iconst (4 : Int32) 105 dX8_count_104 kiconst_4 rfl ?_
                refine wp_iald 106 dX8_count_105 rfl kd_89 (by unfold vp_in; decide) ?_
                exact wp_reti dX8_count_106 rfl H
              · replace H := H.2 c14
                refine ⟨fun c15 => ?_, fun c15 => ?_⟩
                · replace H := H.1 c15
                  refine wp_aload_n 108 dX8_count_107 rfl rfl ?_
                  refine wp_getR 1 89 111 dX8_count_108 rfl fl_X8_7 kd_88 rfl rfl rfl rfl ?_
                  refine wp_iconst (5 : Int32) 112 dX8_count_111 kiconst_5 rfl ?_
                  refine wp_iald 113 dX8_count_112 rfl kd_89 (by unfold vp_in; decide) ?_
                  exact wp_reti dX8_count_113 rfl H
                · replace H := H.2 c15
                  refine ⟨fun c16 => ?_, fun c16 => ?_⟩
                  · replace H := H.1 c16
                    refine wp_aload_n 115 dX8_count_114 rfl rfl ?_
                    refine wp_getI 118 dX8_count_115 rfl fl_X8_247 kd_88 rfl ?_
                    exact wp_reti dX8_count_118 rfl H
                  · replace H := H.2 c16
                    refine ⟨fun c17 => ?_, fun c17 => ?_⟩
                    · replace H := H.1 c17
                      refine wp_aload_n 120 dX8_count_119 rfl rfl ?_
                      refine wp_getR 1 89 123 dX8_count_120 rfl fl_X8_7 kd_88 rfl rfl rfl rfl ?_
                      refine wp_bipush (6 : Int32) 125 dX8_count_123 kbipush_6 rfl ?_
                      refine wp_iald 126 dX8_count_125 rfl kd_89 (by unfold vp_in; decide) ?_
                      exact wp_reti dX8_count_126 rfl H
                    · replace H := H.2 c17
                      show Wp _ _ _ _ _ _ _ _
                      refine wp_iload_n 128 dX8_count_127 rfl rfl ?_
                      refine wp_bipush (10 : Int32) 130 dX8_count_128 kbipush_10 rfl ?_
                      refine wp_bipush (11 : Int32) 132 dX8_count_130 kbipush_11 rfl ?_
                      refine wp_cS (d - 1) 3 [.int a1, .int (10 : Int32), .int (11 : Int32)] [] 135 dX8_count_132 rfl (lk_X8_50 rfl) (by omega) rfl rfl (Nat.le_of_ble_eq_true rfl) (sp_X8_in (by omega)  ?_)
                      refine wp_if_eq 152 138 dX8_count_135 rfl rfl ⟨fun c18 => ?_, fun c18 => ?_⟩
                      · replace H := H.1 c18
                        refine wp_aload_n 153 dX8_count_152 rfl rfl ?_
                        refine wp_iconst (1 : Int32) 154 dX8_count_153 kiconst_1 rfl ?_
                        have c19 := H.1; replace H := H.2
                        refine wp_cV (d - 1) 1 [.int (1 : Int32)] [] 157 dX8_count_154 rfl (lk_X8_62 rfl) (by omega) kd_88 rfl rfl rfl (Nat.le_of_ble_eq_true rfl) (sp_X8_error (by omega) c19 (fun h20 eh20 => ?_))
                        replace H := H h20 eh20
                        exact wp_reti dX8_count_157 rfl H
                      · replace H := H.2 c18
                        refine wp_aload_n 139 dX8_count_138 rfl rfl ?_
                        refine wp_getR 1 89 142 dX8_count_139 rfl fl_X8_7 kd_88 rfl rfl rfl rfl ?_
                        refine wp_iconst (2 : Int32) 143 dX8_count_142 kiconst_2 rfl ?_
                        refine wp_iload_n 144 dX8_count_143 rfl rfl ?_
                        refine wp_iadd 145 dX8_count_144 rfl ?_
                        refine wp_bipush (10 : Int32) 147 dX8_count_145 kbipush_10 rfl ?_
                        refine wp_isub 148 dX8_count_147 rfl ?_
                        have c21 := H.1; replace H := H.2
                        refine wp_iald 149 dX8_count_148 rfl kd_89 c21 ?_
                        refine wp_goto 157 dX8_count_149 rfl ?_
                        exact wp_reti dX8_count_157 rfl H

theorem cg_X8_count {G : kG} {d : Nat} {Q : Int32 → kM → Prop}  {a1 : Int32} {h : kM} (hd : 5 ≤ d)  (H :
    ((a1 = (0 : Int32) →
      Q (h 89 0) h
    ) ∧ (¬ a1 = (0 : Int32) →
    ((a1 = (1 : Int32) →
      Q (h 89 1) h
    ) ∧ (¬ a1 = (1 : Int32) →
    ((a1 = (2 : Int32) →
      (((kb (kDay (h 89 1))) = 0 →
        Q (0 : Int32) h
      ) ∧ (¬ ((kb (kDay (h 89 1))) = 0) →
        Q (1 : Int32) h
      ))
    ) ∧ (¬ a1 = (2 : Int32) →
    ((a1 = (3 : Int32) →
      Cal G (d - 1) m_X8_standing [.ref 88, .int (2 : Int32)] h (fun x5 h6 =>
        Q x5 h6
      )
    ) ∧ (¬ a1 = (3 : Int32) →
    ((a1 = (4 : Int32) →
      Cal G (d - 1) m_X8_standing [.ref 88, .int (1 : Int32)] h (fun x8 h9 =>
        Q x8 h9
      )
    ) ∧ (¬ a1 = (4 : Int32) →
    ((a1 = (5 : Int32) →
      Cal G (d - 1) m_X8_allTied [.ref 88] h (fun x11 h12 =>
        Q x11 h12
      )
    ) ∧ (¬ a1 = (5 : Int32) →
    ((a1 = (6 : Int32) →
      Q (h 89 4) h
    ) ∧ (¬ a1 = (6 : Int32) →
    ((a1 = (7 : Int32) →
      Q (h 89 5) h
    ) ∧ (¬ a1 = (7 : Int32) →
    ((a1 = (8 : Int32) →
      Q (h 88 17) h
    ) ∧ (¬ a1 = (8 : Int32) →
    ((a1 = (9 : Int32) →
      Q (h 89 6) h
    ) ∧ (¬ a1 = (9 : Int32) →
      (((kb ((10 : Int32) ≤ a1 ∧ a1 ≤ (11 : Int32))) = 0 →
        (vp_in (1 : Int32) 7) ∧
        ∀ h20 : kM, h20 = kErr h 93 (1 : Int32) →
        Q (-1000000000 - (1 : Int32)) h20
      ) ∧ (¬ ((kb ((10 : Int32) ≤ a1 ∧ a1 ≤ (11 : Int32))) = 0) →
        (vp_in (((2 : Int32) + a1) - (10 : Int32)) 481) ∧
        Q (h 89 ((((2 : Int32) + a1) - (10 : Int32))).toNatClampNeg) h
      ))
    ))))))))))))))))))))) : Cal G d m_X8_count [.ref 88, .int a1] h Q :=
  Cal.of [.ref 88, .int a1] (by decide +kernel) (Nat.le_of_ble_eq_true rfl) rfl (sg_X8_count_0 hd  H)

theorem st_count (hd : 5 ≤ d) (hR : kRel h) (a1 : Int32) : kStp G d m_X7_count m_X8_count [.int a1] h := by
  obtain ⟨n, H, f, w, hS, hH⟩ := hR.n
  obtain ⟨tn, htn, tr1, tr2, -⟩ := hR.2.2.2.2.1
  have hS2 := id hS
  obtain ⟨⟨hn, n1, m1⟩, ⟨-, H1, M1⟩, ⟨-, f1, fm1⟩, ⟨-, w1, wm1⟩, z1, dr, -⟩ := hS
  have hn1 : h 1 12 = nI n := n1
  have H1 : h 1 13 = nI H := H1
  have f1 : h 1 14 = nI f := f1
  have w1 : h 1 15 = nI w := w1
  have z1 : h 1 16 = h 89 6 := z1
  by_cases hc : 0 ≤ a1 ∧ a1 < 12
  · refine cg_X7_count (by omega) ⟨fun _ => ⟨fun n8 => ?_, fun e8 => ?_⟩, fun q => absurd hc (kb_0.mp q)⟩
    · refine cg_X2_tally (d := d - 1) (by omega) kSea_is1 ⟨fun e => ?_, fun n0 => ⟨fun e => ?_, fun n1 => ⟨fun e => ?_, fun n2 => ⟨fun e => ?_, fun n3 => ⟨fun e => ?_, fun n4 => ⟨fun e => ?_, fun n5 => ⟨fun e => ?_, fun n6 => ⟨fun e => ?_, fun n7 => ⟨fun e => ?_, fun n9 => ⟨fun e => ?_, fun n10 => ?_⟩⟩⟩⟩⟩⟩⟩⟩⟩⟩
      · refine cg_X8_count hd ⟨fun _ => ?_, fun z => absurd e z⟩
        exact ⟨hn1.trans m1.symm, hR⟩
      · refine cg_X8_count hd ⟨fun e => absurd e n0, fun _ => ⟨fun _ => ?_, fun z => absurd e z⟩⟩
        exact ⟨H1.trans M1.symm, hR⟩
      · have eh : h 1 13 = h 89 1 := H1.trans M1.symm
        rw [eh]
        refine ⟨fun c => ?_, fun c => ?_⟩
        · refine cg_X8_count hd ⟨fun e => absurd e n0, fun _ => ⟨fun e => absurd e n1, fun _ => ⟨fun _ => ⟨fun _ => ⟨rfl, hR⟩, fun z => absurd c z⟩, fun z => absurd e z⟩⟩⟩
        · refine cg_X8_count hd ⟨fun e => absurd e n0, fun _ => ⟨fun e => absurd e n1, fun _ => ⟨fun _ => ⟨fun z => absurd z c, fun _ => ⟨rfl, hR⟩⟩, fun z => absurd e z⟩⟩⟩
      · refine sp_X2_shipsThatAre (d := d - 1 - 1) (by omega) kSea_is1 hS2 ?_
        refine cg_X8_count hd ⟨fun e => absurd e n0, fun _ => ⟨fun e => absurd e n1, fun _ => ⟨fun e => absurd e n2, fun _ => ⟨fun _ => ?_, fun z => absurd e z⟩⟩⟩⟩
        exact sp_X8_standing (d := d - 1) (by omega) hS2 ⟨rfl, hR⟩
      · refine sp_X2_shipsThatAre (d := d - 1 - 1) (by omega) kSea_is1 hS2 ?_
        refine cg_X8_count hd ⟨fun e => absurd e n0, fun _ => ⟨fun e => absurd e n1, fun _ => ⟨fun e => absurd e n2, fun _ => ⟨fun e => absurd e n3, fun _ => ⟨fun _ => ?_, fun z => absurd e z⟩⟩⟩⟩⟩
        exact sp_X8_standing (d := d - 1) (by omega) hS2 ⟨rfl, hR⟩
      · refine sp_X2_tiedOfAll (d := d - 1 - 1) (by omega) kSea_is1 hn hn1 ?_
        refine cg_X8_count hd ⟨fun e => absurd e n0, fun _ => ⟨fun e => absurd e n1, fun _ => ⟨fun e => absurd e n2, fun _ => ⟨fun e => absurd e n3, fun _ => ⟨fun e => absurd e n4, fun _ => ⟨fun _ => ?_, fun z => absurd e z⟩⟩⟩⟩⟩⟩
        exact sp_X8_allTied (d := d - 1) (by omega) hS2 ⟨rfl, hR⟩
      · refine cg_X8_count hd ⟨fun e => absurd e n0, fun _ => ⟨fun e => absurd e n1, fun _ => ⟨fun e => absurd e n2, fun _ => ⟨fun e => absurd e n3, fun _ => ⟨fun e => absurd e n4, fun _ => ⟨fun e => absurd e n5, fun _ => ⟨fun _ => ?_, fun z => absurd e z⟩⟩⟩⟩⟩⟩⟩
        exact ⟨f1.trans fm1.symm, hR⟩
      · refine cg_X8_count hd ⟨fun e => absurd e n0, fun _ => ⟨fun e => absurd e n1, fun _ => ⟨fun e => absurd e n2, fun _ => ⟨fun e => absurd e n3, fun _ => ⟨fun e => absurd e n4, fun _ => ⟨fun e => absurd e n5, fun _ => ⟨fun e => absurd e n6, fun _ => ⟨fun _ => ?_, fun z => absurd e z⟩⟩⟩⟩⟩⟩⟩⟩
        exact ⟨w1.trans wm1.symm, hR⟩
      · refine cg_X8_count hd ⟨fun e => absurd e n0, fun _ => ⟨fun e => absurd e n1, fun _ => ⟨fun e => absurd e n2, fun _ => ⟨fun e => absurd e n3, fun _ => ⟨fun e => absurd e n4, fun _ => ⟨fun e => absurd e n5, fun _ => ⟨fun e => absurd e n6, fun _ => ⟨fun e => absurd e n7, fun _ => ⟨fun e => absurd e n8, fun _ => ⟨fun _ => ?_, fun z => absurd e z⟩⟩⟩⟩⟩⟩⟩⟩⟩⟩
        exact ⟨z1, hR⟩
      · subst e
        refine cg_X8_count hd ⟨fun e => absurd e (by decide), fun _ => ⟨fun e => absurd e (by decide), fun _ => ⟨fun e => absurd e (by decide), fun _ => ⟨fun e => absurd e (by decide), fun _ => ⟨fun e => absurd e (by decide), fun _ => ⟨fun e => absurd e (by decide), fun _ => ⟨fun e => absurd e (by decide), fun _ => ⟨fun e => absurd e (by decide), fun _ => ⟨fun e => absurd e (by decide), fun _ => ⟨fun e => absurd e (by decide), fun _ => ⟨fun z => absurd z (by decide), fun _ => ⟨by unfold vp_in; decide, ?_⟩⟩⟩⟩⟩⟩⟩⟩⟩⟩⟩⟩
        exact ⟨dr 0 (by decide), hR⟩
      · obtain ⟨c, hc12, rfl⟩ := iI (n := 12) (by decide) hc.1 hc.2
        have hc11 : c = 11 := by
          have x0 : ¬ c = 0 := fun z => n0 (by rw [z]; rfl)
          have x1 : ¬ c = 1 := fun z => n1 (by rw [z]; rfl)
          have x2 : ¬ c = 2 := fun z => n2 (by rw [z]; rfl)
          have x3 : ¬ c = 3 := fun z => n3 (by rw [z]; rfl)
          have x4 : ¬ c = 4 := fun z => n4 (by rw [z]; rfl)
          have x5 : ¬ c = 5 := fun z => n5 (by rw [z]; rfl)
          have x6 : ¬ c = 6 := fun z => n6 (by rw [z]; rfl)
          have x7 : ¬ c = 7 := fun z => n7 (by rw [z]; rfl)
          have x8 : ¬ c = 8 := fun z => n8 (by rw [z]; rfl)
          have x9 : ¬ c = 9 := fun z => n9 (by rw [z]; rfl)
          have x10 : ¬ c = 10 := fun z => n10 (by rw [z]; rfl)
          omega
        subst hc11
        refine cg_X8_count hd ⟨fun e => absurd e n0, fun _ => ⟨fun e => absurd e n1, fun _ => ⟨fun e => absurd e n2, fun _ => ⟨fun e => absurd e n3, fun _ => ⟨fun e => absurd e n4, fun _ => ⟨fun e => absurd e n5, fun _ => ⟨fun e => absurd e n6, fun _ => ⟨fun e => absurd e n7, fun _ => ⟨fun e => absurd e n8, fun _ => ⟨fun e => absurd e n9, fun _ => ⟨fun z => absurd z (by decide), fun _ => ⟨by unfold vp_in; decide, ?_⟩⟩⟩⟩⟩⟩⟩⟩⟩⟩⟩⟩
        exact ⟨dr 1 (by decide), hR⟩
    · refine cg_X8_count hd ⟨fun e => absurd (e8.symm.trans e) (by decide), fun _ => ⟨fun e => absurd (e8.symm.trans e) (by decide), fun _ => ⟨fun e => absurd (e8.symm.trans e) (by decide), fun _ => ⟨fun e => absurd (e8.symm.trans e) (by decide), fun _ => ⟨fun e => absurd (e8.symm.trans e) (by decide), fun _ => ⟨fun e => absurd (e8.symm.trans e) (by decide), fun _ => ⟨fun e => absurd (e8.symm.trans e) (by decide), fun _ => ⟨fun e => absurd (e8.symm.trans e) (by decide), fun _ => ⟨fun _ => ⟨tr1.trans tr2.symm, hR⟩, fun z => absurd e8 z⟩⟩⟩⟩⟩⟩⟩⟩⟩
  · refine cg_X7_count (by omega) ⟨fun q => absurd (kb_n0.mp q) hc, fun _ => ⟨kin7 (n := 1) (by decide), fun h1 e1 => ?_⟩⟩
    have no : ∀ c : Int32, 0 ≤ c → c < 12 → ¬ a1 = c := fun c x y z => hc (by rw [z]; exact ⟨x, y⟩)
    refine cg_X8_count hd ⟨fun e => absurd e (no 0 (by decide) (by decide)), fun _ => ⟨fun e => absurd e (no 1 (by decide) (by decide)), fun _ => ⟨fun e => absurd e (no 2 (by decide) (by decide)), fun _ => ⟨fun e => absurd e (no 3 (by decide) (by decide)), fun _ => ⟨fun e => absurd e (no 4 (by decide) (by decide)), fun _ => ⟨fun e => absurd e (no 5 (by decide) (by decide)), fun _ => ⟨fun e => absurd e (no 6 (by decide) (by decide)), fun _ => ⟨fun e => absurd e (no 7 (by decide) (by decide)), fun _ => ⟨fun e => absurd e (no 8 (by decide) (by decide)), fun _ => ⟨fun e => absurd e (no 9 (by decide) (by decide)), fun _ => ⟨fun _ => ⟨kin7 (n := 1) (by decide), kErrs hR h1 e1⟩, fun q => absurd ?_ hc⟩⟩⟩⟩⟩⟩⟩⟩⟩⟩⟩
    have q2 := kb_n0.mp q
    exact ⟨Int32.le_trans (by decide) q2.1, Int32.lt_of_le_of_lt q2.2 (by decide)⟩
end Then

