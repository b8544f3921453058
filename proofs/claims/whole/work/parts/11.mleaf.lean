/-! the leaves of the model -/
section MLeaves
variable {G : kG} {d : Nat} {Q : Int32 → kM → Prop} {h : kM}
abbrev okO (p w : Int32) : Prop := vp_in (72 + 3 * p + w) 481
abbrev okI (k w : Int32) : Prop := vp_in (87 + 4 * k + w) 481
def mOf (g : Nat → Int32) (p w : Int32) : Int32 := g (72 + 3 * p + w).toNatClampNeg
def mIt (g : Nat → Int32) (k w : Int32) : Int32 := g (87 + 4 * k + w).toNatClampNeg
def mLay (h : kM) (p w v : Int32) : kM := kU h 89 (72 + 3 * p + w).toNatClampNeg v
theorem sg_X8_in_0 {G : kG} {d : Nat} {Q : Int32 → kM → Prop}  {a1 : Int32} {a2 : Int32} {a3 : Int32} {h : kM} (hd : 1 ≤ d)  (H :
    ((a1 < a2 →
      Q (0 : Int32) h
    ) ∧ (¬ (a1 < a2) →
      ((a3 < a1 →
        Q (0 : Int32) h
      ) ∧ (¬ (a3 < a1) →
        Q (1 : Int32) h
      ))
    ))) : Wp G d m_X8_in (kEo G d m_X8_in Q) 0 [.int a1, .int a2, .int a3] [] h := by
  refine wp_iload_n 1 dX8_in_0 rfl rfl ?_
  refine wp_iload_n 2 dX8_in_1 rfl rfl ?_
  refine wp_icmp_lt 14 5 dX8_in_2 rfl rfl ⟨fun c2 => ?_, fun c2 => ?_⟩
  · replace H := H.1 c2
    refine wp_iconst (0 : Int32) 15 dX8_in_14 kiconst_0 rfl ?_
    exact wp_retz dX8_in_15 rfl (Or.inl rfl) H
  · replace H := H.2 c2
    refine wp_iload_n 6 dX8_in_5 rfl rfl ?_
    refine wp_iload_n 7 dX8_in_6 rfl rfl ?_
    refine wp_icmp_gt 14 10 dX8_in_7 rfl rfl ⟨fun c1 => ?_, fun c1 => ?_⟩
    · replace H := H.1 c1
      refine wp_iconst (0 : Int32) 15 dX8_in_14 kiconst_0 rfl ?_
      exact wp_retz dX8_in_15 rfl (Or.inl rfl) H
    · replace H := H.2 c1
      refine wp_iconst (1 : Int32) 11 dX8_in_10 kiconst_1 rfl ?_
      refine wp_goto 15 dX8_in_11 rfl ?_
      exact wp_retz dX8_in_15 rfl (Or.inr rfl) H

theorem cg_X8_in {G : kG} {d : Nat} {Q : Int32 → kM → Prop}  {a1 : Int32} {a2 : Int32} {a3 : Int32} {h : kM} (hd : 1 ≤ d)  (H :
    ((a1 < a2 →
      Q (0 : Int32) h
    ) ∧ (¬ (a1 < a2) →
      ((a3 < a1 →
        Q (0 : Int32) h
      ) ∧ (¬ (a3 < a1) →
        Q (1 : Int32) h
      ))
    ))) : Cal G d m_X8_in [.int a1, .int a2, .int a3] h Q :=
  Cal.of [.int a1, .int a2, .int a3] (by decide +kernel) (Nat.le_of_ble_eq_true rfl) rfl (sg_X8_in_0 hd  H)

theorem sg_X8_held_0 {G : kG} {d : Nat} {Q : Int32 → kM → Prop}  {a1 : Int32} {a2 : Int32} {a3 : Int32} {h : kM} (hd : 1 ≤ d)  (H :
    ((a2 ≤ a1 →
      ((a1 ≤ a3 →
        Q a1 h
      ) ∧ (¬ (a1 ≤ a3) →
        Q a3 h
      ))
    ) ∧ (¬ (a2 ≤ a1) →
      Q a2 h
    ))) : Wp G d m_X8_held (kEo G d m_X8_held Q) 0 [.int a1, .int a2, .int a3] [] h := by
  refine wp_iload_n 1 dX8_held_0 rfl rfl ?_
  refine wp_iload_n 2 dX8_held_1 rfl rfl ?_
  refine wp_icmp_ge 9 5 dX8_held_2 rfl rfl ⟨fun c2 => ?_, fun c2 => ?_⟩
  · replace H := H.1 c2
    refine wp_iload_n 10 dX8_held_9 rfl rfl ?_
    refine wp_iload_n 11 dX8_held_10 rfl rfl ?_
    refine wp_icmp_le 18 14 dX8_held_11 rfl rfl ⟨fun c1 => ?_, fun c1 => ?_⟩
    · replace H := H.1 c1
      refine wp_iload_n 19 dX8_held_18 rfl rfl ?_
      exact wp_reti dX8_held_19 rfl H
    · replace H := H.2 c1
      refine wp_iload_n 15 dX8_held_14 rfl rfl ?_
      refine wp_goto 19 dX8_held_15 rfl ?_
      exact wp_reti dX8_held_19 rfl H
  · replace H := H.2 c2
    refine wp_iload_n 6 dX8_held_5 rfl rfl ?_
    refine wp_goto 19 dX8_held_6 rfl ?_
    exact wp_reti dX8_held_19 rfl H

theorem cg_X8_held {G : kG} {d : Nat} {Q : Int32 → kM → Prop}  {a1 : Int32} {a2 : Int32} {a3 : Int32} {h : kM} (hd : 1 ≤ d)  (H :
    ((a2 ≤ a1 →
      ((a1 ≤ a3 →
        Q a1 h
      ) ∧ (¬ (a1 ≤ a3) →
        Q a3 h
      ))
    ) ∧ (¬ (a2 ≤ a1) →
      Q a2 h
    ))) : Cal G d m_X8_held [.int a1, .int a2, .int a3] h Q :=
  Cal.of [.int a1, .int a2, .int a3] (by decide +kernel) (Nat.le_of_ble_eq_true rfl) rfl (sg_X8_held_0 hd  H)

theorem sg_X8_of_0 {G : kG} {d : Nat} {Q : Int32 → kM → Prop}  {a1 : Int32} {a2 : Int32} {h : kM} (hd : 1 ≤ d)  (H :
    (vp_in (((72 : Int32) + ((3 : Int32) * a1)) + a2) 481) ∧
    Q (h 89 ((((72 : Int32) + ((3 : Int32) * a1)) + a2)).toNatClampNeg) h) : Wp G d m_X8_of (kEo G d m_X8_of Q) 0 [.ref 88, .int a1, .int a2] [] h := by
  refine wp_aload_n 1 dX8_of_0 rfl rfl ?_
  refine wp_getR 1 89 4 dX8_of_1 rfl fl_X8_7 kd_88 rfl rfl rfl rfl ?_
  refine wp_bipush (72 : Int32) 6 dX8_of_4 kbipush_72 rfl ?_
  refine wp_iconst (3 : Int32) 7 dX8_of_6 kiconst_3 rfl ?_
  refine wp_iload_n 8 dX8_of_7 rfl rfl ?_
  refine wp_imul 9 dX8_of_8 rfl ?_
  refine wp_iadd 10 dX8_of_9 rfl ?_
  refine wp_iload_n 11 dX8_of_10 rfl rfl ?_
  refine wp_iadd 12 dX8_of_11 rfl ?_
  have c1 := H.1; replace H := H.2
  refine wp_iald 13 dX8_of_12 rfl kd_89 c1 ?_
  exact wp_reti dX8_of_13 rfl H

theorem cg_X8_of {G : kG} {d : Nat} {Q : Int32 → kM → Prop}  {a1 : Int32} {a2 : Int32} {h : kM} (hd : 1 ≤ d)  (H :
    (vp_in (((72 : Int32) + ((3 : Int32) * a1)) + a2) 481) ∧
    Q (h 89 ((((72 : Int32) + ((3 : Int32) * a1)) + a2)).toNatClampNeg) h) : Cal G d m_X8_of [.ref 88, .int a1, .int a2] h Q :=
  Cal.of [.ref 88, .int a1, .int a2] (by decide +kernel) (Nat.le_of_ble_eq_true rfl) rfl (sg_X8_of_0 hd  H)

theorem sg_X8_lays1_0 {G : kG} {d : Nat} {Q : Int32 → kM → Prop}  {a1 : Int32} {a2 : Int32} {a3 : Int32} {h : kM} (hd : 1 ≤ d)  (H :
    (vp_in (((72 : Int32) + ((3 : Int32) * a1)) + a2) 481) ∧
    ∀ h2 : kM, h2 = kU h 89 ((((72 : Int32) + ((3 : Int32) * a1)) + a2)).toNatClampNeg a3 →
    Q 0 h2) : Wp G d m_X8_lays1 (kEo G d m_X8_lays1 Q) 0 [.ref 88, .int a1, .int a2, .int a3] [] h := by
  refine wp_aload_n 1 dX8_lays1_0 rfl rfl ?_
  refine wp_getR 1 89 4 dX8_lays1_1 rfl fl_X8_7 kd_88 rfl rfl rfl rfl ?_
  refine wp_bipush (72 : Int32) 6 dX8_lays1_4 kbipush_72 rfl ?_
  refine wp_iconst (3 : Int32) 7 dX8_lays1_6 kiconst_3 rfl ?_
  refine wp_iload_n 8 dX8_lays1_7 rfl rfl ?_
  refine wp_imul 9 dX8_lays1_8 rfl ?_
  refine wp_iadd 10 dX8_lays1_9 rfl ?_
  refine wp_iload_n 11 dX8_lays1_10 rfl rfl ?_
  refine wp_iadd 12 dX8_lays1_11 rfl ?_
  refine wp_iload_n 13 dX8_lays1_12 rfl rfl ?_
  have c1 := H.1; replace H := H.2
  refine wp_iast 14 dX8_lays1_13 rfl kd_89 c1 ?_
  refine wp_nm (fun h2 eh2 => ?_)
  replace H := H h2 eh2
  exact wp_retv dX8_lays1_14 rfl H

theorem cg_X8_lays1 {G : kG} {d : Nat} {Q : Int32 → kM → Prop}  {a1 : Int32} {a2 : Int32} {a3 : Int32} {h : kM} (hd : 1 ≤ d)  (H :
    (vp_in (((72 : Int32) + ((3 : Int32) * a1)) + a2) 481) ∧
    ∀ h2 : kM, h2 = kU h 89 ((((72 : Int32) + ((3 : Int32) * a1)) + a2)).toNatClampNeg a3 →
    Q 0 h2) : Cal G d m_X8_lays1 [.ref 88, .int a1, .int a2, .int a3] h Q :=
  Cal.of [.ref 88, .int a1, .int a2, .int a3] (by decide +kernel) (Nat.le_of_ble_eq_true rfl) rfl (sg_X8_lays1_0 hd  H)

theorem sg_X8_its_0 {G : kG} {d : Nat} {Q : Int32 → kM → Prop}  {a1 : Int32} {a2 : Int32} {h : kM} (hd : 1 ≤ d)  (H :
    (vp_in (((87 : Int32) + ((4 : Int32) * a1)) + a2) 481) ∧
    Q (h 89 ((((87 : Int32) + ((4 : Int32) * a1)) + a2)).toNatClampNeg) h) : Wp G d m_X8_its (kEo G d m_X8_its Q) 0 [.ref 88, .int a1, .int a2] [] h := by
  refine wp_aload_n 1 dX8_its_0 rfl rfl ?_
  refine wp_getR 1 89 4 dX8_its_1 rfl fl_X8_7 kd_88 rfl rfl rfl rfl ?_
  refine wp_bipush (87 : Int32) 6 dX8_its_4 kbipush_87 rfl ?_
  refine wp_iconst (4 : Int32) 7 dX8_its_6 kiconst_4 rfl ?_
  refine wp_iload_n 8 dX8_its_7 rfl rfl ?_
  refine wp_imul 9 dX8_its_8 rfl ?_
  refine wp_iadd 10 dX8_its_9 rfl ?_
  refine wp_iload_n 11 dX8_its_10 rfl rfl ?_
  refine wp_iadd 12 dX8_its_11 rfl ?_
  have c1 := H.1; replace H := H.2
  refine wp_iald 13 dX8_its_12 rfl kd_89 c1 ?_
  exact wp_reti dX8_its_13 rfl H

theorem cg_X8_its {G : kG} {d : Nat} {Q : Int32 → kM → Prop}  {a1 : Int32} {a2 : Int32} {h : kM} (hd : 1 ≤ d)  (H :
    (vp_in (((87 : Int32) + ((4 : Int32) * a1)) + a2) 481) ∧
    Q (h 89 ((((87 : Int32) + ((4 : Int32) * a1)) + a2)).toNatClampNeg) h) : Cal G d m_X8_its [.ref 88, .int a1, .int a2] h Q :=
  Cal.of [.ref 88, .int a1, .int a2] (by decide +kernel) (Nat.le_of_ble_eq_true rfl) rfl (sg_X8_its_0 hd  H)

theorem sg_X8_change1_0 {G : kG} {d : Nat} {Q : Int32 → kM → Prop}  {a1 : Int32} {a2 : Int32} {h : kM} (hd : 1 ≤ d)  (H :
    (vp_in a1 481) ∧
    (vp_in a1 481) ∧
    ∀ h3 : kM, h3 = kU h 89 (a1).toNatClampNeg a2 →
    Q (h 89 (a1).toNatClampNeg) h3) : Wp G d m_X8_change1 (kEo G d m_X8_change1 Q) 0 [.ref 88, .int a1, .int a2, .null] [] h := by
  refine wp_aload_n 1 dX8_change1_0 rfl rfl ?_
  refine wp_getR 1 89 4 dX8_change1_1 rfl fl_X8_7 kd_88 rfl rfl rfl rfl ?_
  refine wp_iload_n 5 dX8_change1_4 rfl rfl ?_
  have c1 := H.1; replace H := H.2
  refine wp_iald 6 dX8_change1_5 rfl kd_89 c1 ?_
  refine wp_istore_n 7 dX8_change1_6 rfl (Nat.le_of_ble_eq_true rfl) rfl ?_
  refine wp_aload_n 8 dX8_change1_7 rfl rfl ?_
  refine wp_getR 1 89 11 dX8_change1_8 rfl fl_X8_7 kd_88 rfl rfl rfl rfl ?_
  refine wp_iload_n 12 dX8_change1_11 rfl rfl ?_
  refine wp_iload_n 13 dX8_change1_12 rfl rfl ?_
  have c2 := H.1; replace H := H.2
  refine wp_iast 14 dX8_change1_13 rfl kd_89 c2 ?_
  refine wp_nm (fun h3 eh3 => ?_)
  replace H := H h3 eh3
  refine wp_iload_n 15 dX8_change1_14 rfl rfl ?_
  exact wp_reti dX8_change1_15 rfl H

theorem cg_X8_change1 {G : kG} {d : Nat} {Q : Int32 → kM → Prop}  {a1 : Int32} {a2 : Int32} {h : kM} (hd : 1 ≤ d)  (H :
    (vp_in a1 481) ∧
    (vp_in a1 481) ∧
    ∀ h3 : kM, h3 = kU h 89 (a1).toNatClampNeg a2 →
    Q (h 89 (a1).toNatClampNeg) h3) : Cal G d m_X8_change1 [.ref 88, .int a1, .int a2] h Q :=
  Cal.of [.ref 88, .int a1, .int a2, .null] (by decide +kernel) (Nat.le_of_ble_eq_true rfl) rfl (sg_X8_change1_0 hd  H)

theorem sg_X8_look_0 {G : kG} {d : Nat} {Q : Int32 → kM → Prop}   {h : kM} (hd : 1 ≤ d)  (H :
    (((h 89 4) ≤ (h 88 6) →
      Q (-1 : Int32) h
    ) ∧ (¬ ((h 89 4) ≤ (h 88 6)) →
      (vp_in ((397 : Int32) + (h 88 6)) 481) ∧
      Q (h 89 (((397 : Int32) + (h 88 6))).toNatClampNeg) h
    ))) : Wp G d m_X8_look (kEo G d m_X8_look Q) 0 [.ref 88] [] h := by
  refine wp_aload_n 1 dX8_look_0 rfl rfl ?_
  refine wp_getI 4 dX8_look_1 rfl fl_X8_68 kd_88 rfl ?_
  refine wp_aload_n 5 dX8_look_4 rfl rfl ?_
  refine wp_getR 1 89 8 dX8_look_5 rfl fl_X8_7 kd_88 rfl rfl rfl rfl ?_
  refine wp_iconst (4 : Int32) 9 dX8_look_8 kiconst_4 rfl ?_
  refine wp_iald 10 dX8_look_9 rfl kd_89 (by unfold vp_in; decide) ?_
  refine wp_icmp_ge 29 13 dX8_look_10 rfl rfl ⟨fun c2 => ?_, fun c2 => ?_⟩
  · replace H := H.1 c2
    refine wp_iconst (-1 : Int32) 30 dX8_look_29 kiconst_m1 rfl ?_
    exact wp_reti dX8_look_30 rfl H
  · replace H := H.2 c2
    refine wp_aload_n 14 dX8_look_13 rfl rfl ?_
    refine wp_getR 1 89 17 dX8_look_14 rfl fl_X8_7 kd_88 rfl rfl rfl rfl ?_
    refine wp_sipush (397 : Int32) 20 dX8_look_17 ksipush_397 rfl ?_
    refine wp_aload_n 21 dX8_look_20 rfl rfl ?_
    refine wp_getI 24 dX8_look_21 rfl fl_X8_68 kd_88 rfl ?_
    refine wp_iadd 25 dX8_look_24 rfl ?_
    have c1 := H.1; replace H := H.2
    refine wp_iald 26 dX8_look_25 rfl kd_89 c1 ?_
    refine wp_goto 30 dX8_look_26 rfl ?_
    exact wp_reti dX8_look_30 rfl H

theorem cg_X8_look {G : kG} {d : Nat} {Q : Int32 → kM → Prop}   {h : kM} (hd : 1 ≤ d)  (H :
    (((h 89 4) ≤ (h 88 6) →
      Q (-1 : Int32) h
    ) ∧ (¬ ((h 89 4) ≤ (h 88 6)) →
      (vp_in ((397 : Int32) + (h 88 6)) 481) ∧
      Q (h 89 (((397 : Int32) + (h 88 6))).toNatClampNeg) h
    ))) : Cal G d m_X8_look [.ref 88] h Q :=
  Cal.of [.ref 88] (by decide +kernel) (Nat.le_of_ble_eq_true rfl) rfl (sg_X8_look_0 hd  H)

theorem sg_X8_isName_0 {G : kG} {d : Nat} {Q : Int32 → kM → Prop}  {a1 : Int32} {h : kM} (hd : 1 ≤ d)  (H :
    ((¬ a1 = (109 : Int32) →
      ((¬ (h 88 9) = 0 →
        ((a1 = (107 : Int32) →
          Q (1 : Int32) h
        ) ∧ (¬ (a1 = (107 : Int32)) →
          ((¬ a1 = (110 : Int32) →
            Q (0 : Int32) h
          ) ∧ (a1 = (110 : Int32) →
            Q (1 : Int32) h
          ))
        ))
      ) ∧ ((h 88 9) = 0 →
        ((a1 = (104 : Int32) →
          Q (1 : Int32) h
        ) ∧ (¬ (a1 = (104 : Int32)) →
          ((¬ a1 = (119 : Int32) →
            Q (0 : Int32) h
          ) ∧ (a1 = (119 : Int32) →
            Q (1 : Int32) h
          ))
        ))
      ))
    ) ∧ (a1 = (109 : Int32) →
      Q (1 : Int32) h
    ))) : Wp G d m_X8_isName (kEo G d m_X8_isName Q) 0 [.ref 88, .int a1] [] h := by
  refine wp_iload_n 1 dX8_isName_0 rfl rfl ?_
  refine wp_bipush (109 : Int32) 3 dX8_isName_1 kbipush_109 rfl ?_
  refine wp_icmp_ne 8 6 dX8_isName_3 rfl rfl ⟨fun c6 => ?_, fun c6 => ?_⟩
  · replace H := H.1 c6
    refine wp_aload_n 9 dX8_isName_8 rfl rfl ?_
    refine wp_getI 12 dX8_isName_9 rfl fl_X8_72 kd_88 rfl ?_
    refine wp_if_ne 35 15 dX8_isName_12 rfl rfl ⟨fun c5 => ?_, fun c5 => ?_⟩
    · replace H := H.1 c5
      refine wp_iload_n 36 dX8_isName_35 rfl rfl ?_
      refine wp_bipush (107 : Int32) 38 dX8_isName_36 kbipush_107 rfl ?_
      refine wp_icmp_eq 47 41 dX8_isName_38 rfl rfl ⟨fun c2 => ?_, fun c2 => ?_⟩
      · replace H := H.1 c2
        refine wp_iconst (1 : Int32) 48 dX8_isName_47 kiconst_1 rfl ?_
        refine wp_goto 52 dX8_isName_48 rfl ?_
        exact wp_retz dX8_isName_52 rfl (Or.inr rfl) H
      · replace H := H.2 c2
        refine wp_iload_n 42 dX8_isName_41 rfl rfl ?_
        refine wp_bipush (110 : Int32) 44 dX8_isName_42 kbipush_110 rfl ?_
        refine wp_icmp_ne 51 47 dX8_isName_44 rfl rfl ⟨fun c1 => ?_, fun c1 => ?_⟩
        · replace H := H.1 c1
          refine wp_iconst (0 : Int32) 52 dX8_isName_51 kiconst_0 rfl ?_
          exact wp_retz dX8_isName_52 rfl (Or.inl rfl) H
        · replace H := H.2 c1
          refine wp_iconst (1 : Int32) 48 dX8_isName_47 kiconst_1 rfl ?_
          refine wp_goto 52 dX8_isName_48 rfl ?_
          exact wp_retz dX8_isName_52 rfl (Or.inr rfl) H
    · replace H := H.2 c5
      refine wp_iload_n 16 dX8_isName_15 rfl rfl ?_
      refine wp_bipush (104 : Int32) 18 dX8_isName_16 kbipush_104 rfl ?_
      refine wp_icmp_eq 27 21 dX8_isName_18 rfl rfl ⟨fun c4 => ?_, fun c4 => ?_⟩
      · replace H := H.1 c4
        refine wp_iconst (1 : Int32) 28 dX8_isName_27 kiconst_1 rfl ?_
        refine wp_goto 52 dX8_isName_28 rfl ?_
        exact wp_retz dX8_isName_52 rfl (Or.inr rfl) H
      · replace H := H.2 c4
        refine wp_iload_n 22 dX8_isName_21 rfl rfl ?_
        refine wp_bipush (119 : Int32) 24 dX8_isName_22 kbipush_119 rfl ?_
        refine wp_icmp_ne 31 27 dX8_isName_24 rfl rfl ⟨fun c3 => ?_, fun c3 => ?_⟩
        · replace H := H.1 c3
          refine wp_iconst (0 : Int32) 32 dX8_isName_31 kiconst_0 rfl ?_
          refine wp_goto 52 dX8_isName_32 rfl ?_
          exact wp_retz dX8_isName_52 rfl (Or.inl rfl) H
        · replace H := H.2 c3
          refine wp_iconst (1 : Int32) 28 dX8_isName_27 kiconst_1 rfl ?_
          refine wp_goto 52 dX8_isName_28 rfl ?_
          exact wp_retz dX8_isName_52 rfl (Or.inr rfl) H
  · replace H := H.2 c6
    refine wp_iconst (1 : Int32) 7 dX8_isName_6 kiconst_1 rfl ?_
    exact wp_retz dX8_isName_7 rfl (Or.inr rfl) H

theorem cg_X8_isName {G : kG} {d : Nat} {Q : Int32 → kM → Prop}  {a1 : Int32} {h : kM} (hd : 1 ≤ d)  (H :
    ((¬ a1 = (109 : Int32) →
      ((¬ (h 88 9) = 0 →
        ((a1 = (107 : Int32) →
          Q (1 : Int32) h
        ) ∧ (¬ (a1 = (107 : Int32)) →
          ((¬ a1 = (110 : Int32) →
            Q (0 : Int32) h
          ) ∧ (a1 = (110 : Int32) →
            Q (1 : Int32) h
          ))
        ))
      ) ∧ ((h 88 9) = 0 →
        ((a1 = (104 : Int32) →
          Q (1 : Int32) h
        ) ∧ (¬ (a1 = (104 : Int32)) →
          ((¬ a1 = (119 : Int32) →
            Q (0 : Int32) h
          ) ∧ (a1 = (119 : Int32) →
            Q (1 : Int32) h
          ))
        ))
      ))
    ) ∧ (a1 = (109 : Int32) →
      Q (1 : Int32) h
    ))) : Cal G d m_X8_isName [.ref 88, .int a1] h Q :=
  Cal.of [.ref 88, .int a1] (by decide +kernel) (Nat.le_of_ble_eq_true rfl) rfl (sg_X8_isName_0 hd  H)

theorem sg_X8_step1_0 {G : kG} {d : Nat} {Q : Int32 → kM → Prop}  {a1 : Int32} {a2 : Int32} {h : kM} (hd : 1 ≤ d)  (H :
    (vp_in ((2 : Int32) * (h 88 8)) 124) ∧
    ∀ h2 : kM, h2 = kU h 94 (((2 : Int32) * (h 88 8))).toNatClampNeg a1 →
    (vp_in (((2 : Int32) * (h2 88 8)) + (1 : Int32)) 124) ∧
    ∀ h4 : kM, h4 = kU h2 94 ((((2 : Int32) * (h2 88 8)) + (1 : Int32))).toNatClampNeg a2 →
    ∀ h5 : kM, h5 = kU h4 88 8 ((h4 88 8) + (1 : Int32)) →
    Q 0 h5) : Wp G d m_X8_step1 (kEo G d m_X8_step1 Q) 0 [.ref 88, .int a1, .int a2] [] h := by
  refine wp_aload_n 1 dX8_step1_0 rfl rfl ?_
  refine wp_getR 6 94 4 dX8_step1_1 rfl fl_X8_25 kd_88 rfl rfl rfl rfl ?_
  refine wp_iconst (2 : Int32) 5 dX8_step1_4 kiconst_2 rfl ?_
  refine wp_aload_n 6 dX8_step1_5 rfl rfl ?_
  refine wp_getI 9 dX8_step1_6 rfl fl_X8_75 kd_88 rfl ?_
  refine wp_imul 10 dX8_step1_9 rfl ?_
  refine wp_iload_n 11 dX8_step1_10 rfl rfl ?_
  have c1 := H.1; replace H := H.2
  refine wp_iast 12 dX8_step1_11 rfl kd_94 c1 ?_
  refine wp_nm (fun h2 eh2 => ?_)
  replace H := H h2 eh2
  refine wp_aload_n 13 dX8_step1_12 rfl rfl ?_
  refine wp_getR 6 94 16 dX8_step1_13 rfl fl_X8_25 kd_88 rfl rfl rfl rfl ?_
  refine wp_iconst (2 : Int32) 17 dX8_step1_16 kiconst_2 rfl ?_
  refine wp_aload_n 18 dX8_step1_17 rfl rfl ?_
  refine wp_getI 21 dX8_step1_18 rfl fl_X8_75 kd_88 rfl ?_
  refine wp_imul 22 dX8_step1_21 rfl ?_
  refine wp_iconst (1 : Int32) 23 dX8_step1_22 kiconst_1 rfl ?_
  refine wp_iadd 24 dX8_step1_23 rfl ?_
  refine wp_iload_n 25 dX8_step1_24 rfl rfl ?_
  have c3 := H.1; replace H := H.2
  refine wp_iast 26 dX8_step1_25 rfl kd_94 c3 ?_
  refine wp_nm (fun h4 eh4 => ?_)
  replace H := H h4 eh4
  refine wp_aload_n 27 dX8_step1_26 rfl rfl ?_
  refine wp_dup 28 dX8_step1_27 rfl rfl ?_
  refine wp_getI 31 dX8_step1_28 rfl fl_X8_75 kd_88 rfl ?_
  refine wp_iconst (1 : Int32) 32 dX8_step1_31 kiconst_1 rfl ?_
  refine wp_iadd 33 dX8_step1_32 rfl ?_
  refine wp_putI 36 dX8_step1_33 rfl fl_X8_75 fin_8_8 kd_88 rfl ?_
  refine wp_nm (fun h5 eh5 => ?_)
  replace H := H h5 eh5
  exact wp_retv dX8_step1_36 rfl H

theorem cg_X8_step1 {G : kG} {d : Nat} {Q : Int32 → kM → Prop}  {a1 : Int32} {a2 : Int32} {h : kM} (hd : 1 ≤ d)  (H :
    (vp_in ((2 : Int32) * (h 88 8)) 124) ∧
    ∀ h2 : kM, h2 = kU h 94 (((2 : Int32) * (h 88 8))).toNatClampNeg a1 →
    (vp_in (((2 : Int32) * (h2 88 8)) + (1 : Int32)) 124) ∧
    ∀ h4 : kM, h4 = kU h2 94 ((((2 : Int32) * (h2 88 8)) + (1 : Int32))).toNatClampNeg a2 →
    ∀ h5 : kM, h5 = kU h4 88 8 ((h4 88 8) + (1 : Int32)) →
    Q 0 h5) : Cal G d m_X8_step1 [.ref 88, .int a1, .int a2] h Q :=
  Cal.of [.ref 88, .int a1, .int a2] (by decide +kernel) (Nat.le_of_ble_eq_true rfl) rfl (sg_X8_step1_0 hd  H)

theorem sg_X8_opens_0 {G : kG} {d : Nat} {Q : Int32 → kM → Prop}   {h : kM} (hd : 1 ≤ d)  (H :
    ((¬ (h 88 7) = (5 : Int32) →
      ∀ h1 : kM, h1 = kU h 88 7 ((h 88 7) + (1 : Int32)) →
      ∀ h2 : kM, h2 = kU h1 88 6 ((h1 88 6) + (1 : Int32)) →
      Q (1 : Int32) h2
    ) ∧ ((h 88 7) = (5 : Int32) →
      Q (0 : Int32) h
    ))) : Wp G d m_X8_opens (kEo G d m_X8_opens Q) 0 [.ref 88] [] h := by
  refine wp_aload_n 1 dX8_opens_0 rfl rfl ?_
  refine wp_getI 4 dX8_opens_1 rfl fl_X8_102 kd_88 rfl ?_
  refine wp_iconst (5 : Int32) 5 dX8_opens_4 kiconst_5 rfl ?_
  refine wp_icmp_ne 10 8 dX8_opens_5 rfl rfl ⟨fun c3 => ?_, fun c3 => ?_⟩
  · replace H := H.1 c3
    refine wp_aload_n 11 dX8_opens_10 rfl rfl ?_
    refine wp_dup 12 dX8_opens_11 rfl rfl ?_
    refine wp_getI 15 dX8_opens_12 rfl fl_X8_102 kd_88 rfl ?_
    refine wp_iconst (1 : Int32) 16 dX8_opens_15 kiconst_1 rfl ?_
    refine wp_iadd 17 dX8_opens_16 rfl ?_
    refine wp_putI 20 dX8_opens_17 rfl fl_X8_102 fin_8_7 kd_88 rfl ?_
    refine wp_nm (fun h1 eh1 => ?_)
    replace H := H h1 eh1
    refine wp_aload_n 21 dX8_opens_20 rfl rfl ?_
    refine wp_dup 22 dX8_opens_21 rfl rfl ?_
    refine wp_getI 25 dX8_opens_22 rfl fl_X8_68 kd_88 rfl ?_
    refine wp_iconst (1 : Int32) 26 dX8_opens_25 kiconst_1 rfl ?_
    refine wp_iadd 27 dX8_opens_26 rfl ?_
    refine wp_putI 30 dX8_opens_27 rfl fl_X8_68 fin_8_6 kd_88 rfl ?_
    refine wp_nm (fun h2 eh2 => ?_)
    replace H := H h2 eh2
    refine wp_iconst (1 : Int32) 31 dX8_opens_30 kiconst_1 rfl ?_
    exact wp_retz dX8_opens_31 rfl (Or.inr rfl) H
  · replace H := H.2 c3
    refine wp_iconst (0 : Int32) 9 dX8_opens_8 kiconst_0 rfl ?_
    exact wp_retz dX8_opens_9 rfl (Or.inl rfl) H

theorem cg_X8_opens {G : kG} {d : Nat} {Q : Int32 → kM → Prop}   {h : kM} (hd : 1 ≤ d)  (H :
    ((¬ (h 88 7) = (5 : Int32) →
      ∀ h1 : kM, h1 = kU h 88 7 ((h 88 7) + (1 : Int32)) →
      ∀ h2 : kM, h2 = kU h1 88 6 ((h1 88 6) + (1 : Int32)) →
      Q (1 : Int32) h2
    ) ∧ ((h 88 7) = (5 : Int32) →
      Q (0 : Int32) h
    ))) : Cal G d m_X8_opens [.ref 88] h Q :=
  Cal.of [.ref 88] (by decide +kernel) (Nat.le_of_ble_eq_true rfl) rfl (sg_X8_opens_0 hd  H)

theorem sg_X8_hasText_0 {G : kG} {d : Nat} {Q : Int32 → kM → Prop}  {a1 : Int32} {h : kM} (hd : 1 ≤ d)  (H :
    (vp_in ((147 : Int32) + ((125 : Int32) * a1)) 481) ∧
    (((h 89 (((147 : Int32) + ((125 : Int32) * a1))).toNatClampNeg) ≤ 0 →
      Q (0 : Int32) h
    ) ∧ (¬ ((h 89 (((147 : Int32) + ((125 : Int32) * a1))).toNatClampNeg) ≤ 0) →
      Q (1 : Int32) h
    ))) : Wp G d m_X8_hasText (kEo G d m_X8_hasText Q) 0 [.ref 88, .int a1] [] h := by
  refine wp_aload_n 1 dX8_hasText_0 rfl rfl ?_
  refine wp_getR 1 89 4 dX8_hasText_1 rfl fl_X8_7 kd_88 rfl rfl rfl rfl ?_
  refine wp_sipush (147 : Int32) 7 dX8_hasText_4 ksipush_147 rfl ?_
  refine wp_bipush (125 : Int32) 9 dX8_hasText_7 kbipush_125 rfl ?_
  refine wp_iload_n 10 dX8_hasText_9 rfl rfl ?_
  refine wp_imul 11 dX8_hasText_10 rfl ?_
  refine wp_iadd 12 dX8_hasText_11 rfl ?_
  have c1 := H.1; replace H := H.2
  refine wp_iald 13 dX8_hasText_12 rfl kd_89 c1 ?_
  refine wp_if_le 20 16 dX8_hasText_13 rfl rfl ⟨fun c2 => ?_, fun c2 => ?_⟩
  · replace H := H.1 c2
    refine wp_iconst (0 : Int32) 21 dX8_hasText_20 kiconst_0 rfl ?_
    exact wp_retz dX8_hasText_21 rfl (Or.inl rfl) H
  · replace H := H.2 c2
    refine wp_iconst (1 : Int32) 17 dX8_hasText_16 kiconst_1 rfl ?_
    refine wp_goto 21 dX8_hasText_17 rfl ?_
    exact wp_retz dX8_hasText_21 rfl (Or.inr rfl) H

theorem cg_X8_hasText {G : kG} {d : Nat} {Q : Int32 → kM → Prop}  {a1 : Int32} {h : kM} (hd : 1 ≤ d)  (H :
    (vp_in ((147 : Int32) + ((125 : Int32) * a1)) 481) ∧
    (((h 89 (((147 : Int32) + ((125 : Int32) * a1))).toNatClampNeg) ≤ 0 →
      Q (0 : Int32) h
    ) ∧ (¬ ((h 89 (((147 : Int32) + ((125 : Int32) * a1))).toNatClampNeg) ≤ 0) →
      Q (1 : Int32) h
    ))) : Cal G d m_X8_hasText [.ref 88, .int a1] h Q :=
  Cal.of [.ref 88, .int a1] (by decide +kernel) (Nat.le_of_ble_eq_true rfl) rfl (sg_X8_hasText_0 hd  H)

theorem sg_X8_ties_0 {G : kG} {d : Nat} {Q : Int32 → kM → Prop}  {a1 : Int32} {a2 : Int32} {a3 : Int32} {h : kM} (hd : 1 ≤ d)  (H :
    (vp_in (((87 : Int32) + ((4 : Int32) * a1)) + (0 : Int32)) 481) ∧
    ∀ h2 : kM, h2 = kU h 89 ((((87 : Int32) + ((4 : Int32) * a1)) + (0 : Int32))).toNatClampNeg (a2 / (10 : Int32)) →
    (vp_in (((87 : Int32) + ((4 : Int32) * a1)) + (1 : Int32)) 481) ∧
    ∀ h4 : kM, h4 = kU h2 89 ((((87 : Int32) + ((4 : Int32) * a1)) + (1 : Int32))).toNatClampNeg (a2 - a2 / (10 : Int32) * (10 : Int32)) →
    (vp_in (((87 : Int32) + ((4 : Int32) * a1)) + (2 : Int32)) 481) ∧
    ∀ h6 : kM, h6 = kU h4 89 ((((87 : Int32) + ((4 : Int32) * a1)) + (2 : Int32))).toNatClampNeg a3 →
    (vp_in (((87 : Int32) + ((4 : Int32) * a1)) + (3 : Int32)) 481) ∧
    ∀ h8 : kM, h8 = kU h6 89 ((((87 : Int32) + ((4 : Int32) * a1)) + (3 : Int32))).toNatClampNeg (-1 : Int32) →
    Q 0 h8) : Wp G d m_X8_ties (kEo G d m_X8_ties Q) 0 [.ref 88, .int a1, .int a2, .int a3] [] h := by
  refine wp_aload_n 1 dX8_ties_0 rfl rfl ?_
  refine wp_getR 1 89 4 dX8_ties_1 rfl fl_X8_7 kd_88 rfl rfl rfl rfl ?_
  refine wp_bipush (87 : Int32) 6 dX8_ties_4 kbipush_87 rfl ?_
  refine wp_iconst (4 : Int32) 7 dX8_ties_6 kiconst_4 rfl ?_
  refine wp_iload_n 8 dX8_ties_7 rfl rfl ?_
  refine wp_imul 9 dX8_ties_8 rfl ?_
  refine wp_iadd 10 dX8_ties_9 rfl ?_
  refine wp_iconst (0 : Int32) 11 dX8_ties_10 kiconst_0 rfl ?_
  refine wp_iadd 12 dX8_ties_11 rfl ?_
  refine wp_iload_n 13 dX8_ties_12 rfl rfl ?_
  refine wp_bipush (10 : Int32) 15 dX8_ties_13 kbipush_10 rfl ?_
  refine wp_idiv 16 dX8_ties_15 (by decide) rfl ?_
  have c1 := H.1; replace H := H.2
  refine wp_iast 17 dX8_ties_16 rfl kd_89 c1 ?_
  refine wp_nm (fun h2 eh2 => ?_)
  replace H := H h2 eh2
  refine wp_aload_n 18 dX8_ties_17 rfl rfl ?_
  refine wp_getR 1 89 21 dX8_ties_18 rfl fl_X8_7 kd_88 rfl rfl rfl rfl ?_
  refine wp_bipush (87 : Int32) 23 dX8_ties_21 kbipush_87 rfl ?_
  refine wp_iconst (4 : Int32) 24 dX8_ties_23 kiconst_4 rfl ?_
  refine wp_iload_n 25 dX8_ties_24 rfl rfl ?_
  refine wp_imul 26 dX8_ties_25 rfl ?_
  refine wp_iadd 27 dX8_ties_26 rfl ?_
  refine wp_iconst (1 : Int32) 28 dX8_ties_27 kiconst_1 rfl ?_
  refine wp_iadd 29 dX8_ties_28 rfl ?_
  refine wp_iload_n 30 dX8_ties_29 rfl rfl ?_
  refine wp_bipush (10 : Int32) 32 dX8_ties_30 kbipush_10 rfl ?_
  refine wp_irem 33 dX8_ties_32 (by decide) rfl ?_
  have c3 := H.1; replace H := H.2
  refine wp_iast 34 dX8_ties_33 rfl kd_89 c3 ?_
  refine wp_nm (fun h4 eh4 => ?_)
  replace H := H h4 eh4
  refine wp_aload_n 35 dX8_ties_34 rfl rfl ?_
  refine wp_getR 1 89 38 dX8_ties_35 rfl fl_X8_7 kd_88 rfl rfl rfl rfl ?_
  refine wp_bipush (87 : Int32) 40 dX8_ties_38 kbipush_87 rfl ?_
  refine wp_iconst (4 : Int32) 41 dX8_ties_40 kiconst_4 rfl ?_
  refine wp_iload_n 42 dX8_ties_41 rfl rfl ?_
  refine wp_imul 43 dX8_ties_42 rfl ?_
  refine wp_iadd 44 dX8_ties_43 rfl ?_
  refine wp_iconst (2 : Int32) 45 dX8_ties_44 kiconst_2 rfl ?_
  refine wp_iadd 46 dX8_ties_45 rfl ?_
  refine wp_iload_n 47 dX8_ties_46 rfl rfl ?_
  have c5 := H.1; replace H := H.2
  refine wp_iast 48 dX8_ties_47 rfl kd_89 c5 ?_
  refine wp_nm (fun h6 eh6 => ?_)
  replace H := H h6 eh6
  refine wp_aload_n 49 dX8_ties_48 rfl rfl ?_
  refine wp_getR 1 89 52 dX8_ties_49 rfl fl_X8_7 kd_88 rfl rfl rfl rfl ?_
  refine wp_bipush (87 : Int32) 54 dX8_ties_52 kbipush_87 rfl ?_
  refine wp_iconst (4 : Int32) 55 dX8_ties_54 kiconst_4 rfl ?_
  refine wp_iload_n 56 dX8_ties_55 rfl rfl ?_
  refine wp_imul 57 dX8_ties_56 rfl ?_
  refine wp_iadd 58 dX8_ties_57 rfl ?_
  refine wp_iconst (3 : Int32) 59 dX8_ties_58 kiconst_3 rfl ?_
  refine wp_iadd 60 dX8_ties_59 rfl ?_
  refine wp_iconst (-1 : Int32) 61 dX8_ties_60 kiconst_m1 rfl ?_
  have c7 := H.1; replace H := H.2
  refine wp_iast 62 dX8_ties_61 rfl kd_89 c7 ?_
  refine wp_nm (fun h8 eh8 => ?_)
  replace H := H h8 eh8
  exact wp_retv dX8_ties_62 rfl H

theorem cg_X8_ties {G : kG} {d : Nat} {Q : Int32 → kM → Prop}  {a1 : Int32} {a2 : Int32} {a3 : Int32} {h : kM} (hd : 1 ≤ d)  (H :
    (vp_in (((87 : Int32) + ((4 : Int32) * a1)) + (0 : Int32)) 481) ∧
    ∀ h2 : kM, h2 = kU h 89 ((((87 : Int32) + ((4 : Int32) * a1)) + (0 : Int32))).toNatClampNeg (a2 / (10 : Int32)) →
    (vp_in (((87 : Int32) + ((4 : Int32) * a1)) + (1 : Int32)) 481) ∧
    ∀ h4 : kM, h4 = kU h2 89 ((((87 : Int32) + ((4 : Int32) * a1)) + (1 : Int32))).toNatClampNeg (a2 - a2 / (10 : Int32) * (10 : Int32)) →
    (vp_in (((87 : Int32) + ((4 : Int32) * a1)) + (2 : Int32)) 481) ∧
    ∀ h6 : kM, h6 = kU h4 89 ((((87 : Int32) + ((4 : Int32) * a1)) + (2 : Int32))).toNatClampNeg a3 →
    (vp_in (((87 : Int32) + ((4 : Int32) * a1)) + (3 : Int32)) 481) ∧
    ∀ h8 : kM, h8 = kU h6 89 ((((87 : Int32) + ((4 : Int32) * a1)) + (3 : Int32))).toNatClampNeg (-1 : Int32) →
    Q 0 h8) : Cal G d m_X8_ties [.ref 88, .int a1, .int a2, .int a3] h Q :=
  Cal.of [.ref 88, .int a1, .int a2, .int a3] (by decide +kernel) (Nat.le_of_ble_eq_true rfl) rfl (sg_X8_ties_0 hd  H)

theorem sg_X8_looses_0 {G : kG} {d : Nat} {Q : Int32 → kM → Prop}  {a1 : Int32} {h : kM} (hd : 1 ≤ d)  (H :
    (vp_in (((87 : Int32) + ((4 : Int32) * a1)) + (3 : Int32)) 481) ∧
    ∀ h2 : kM, h2 = kU h 89 ((((87 : Int32) + ((4 : Int32) * a1)) + (3 : Int32))).toNatClampNeg (h 89 1) →
    Q 0 h2) : Wp G d m_X8_looses (kEo G d m_X8_looses Q) 0 [.ref 88, .int a1] [] h := by
  refine wp_aload_n 1 dX8_looses_0 rfl rfl ?_
  refine wp_getR 1 89 4 dX8_looses_1 rfl fl_X8_7 kd_88 rfl rfl rfl rfl ?_
  refine wp_bipush (87 : Int32) 6 dX8_looses_4 kbipush_87 rfl ?_
  refine wp_iconst (4 : Int32) 7 dX8_looses_6 kiconst_4 rfl ?_
  refine wp_iload_n 8 dX8_looses_7 rfl rfl ?_
  refine wp_imul 9 dX8_looses_8 rfl ?_
  refine wp_iadd 10 dX8_looses_9 rfl ?_
  refine wp_iconst (3 : Int32) 11 dX8_looses_10 kiconst_3 rfl ?_
  refine wp_iadd 12 dX8_looses_11 rfl ?_
  refine wp_aload_n 13 dX8_looses_12 rfl rfl ?_
  refine wp_getR 1 89 16 dX8_looses_13 rfl fl_X8_7 kd_88 rfl rfl rfl rfl ?_
  refine wp_iconst (1 : Int32) 17 dX8_looses_16 kiconst_1 rfl ?_
  refine wp_iald 18 dX8_looses_17 rfl kd_89 (by unfold vp_in; decide) ?_
  have c1 := H.1; replace H := H.2
  refine wp_iast 19 dX8_looses_18 rfl kd_89 c1 ?_
  refine wp_nm (fun h2 eh2 => ?_)
  replace H := H h2 eh2
  exact wp_retv dX8_looses_19 rfl H

theorem cg_X8_looses {G : kG} {d : Nat} {Q : Int32 → kM → Prop}  {a1 : Int32} {h : kM} (hd : 1 ≤ d)  (H :
    (vp_in (((87 : Int32) + ((4 : Int32) * a1)) + (3 : Int32)) 481) ∧
    ∀ h2 : kM, h2 = kU h 89 ((((87 : Int32) + ((4 : Int32) * a1)) + (3 : Int32))).toNatClampNeg (h 89 1) →
    Q 0 h2) : Cal G d m_X8_looses [.ref 88, .int a1] h Q :=
  Cal.of [.ref 88, .int a1] (by decide +kernel) (Nat.le_of_ble_eq_true rfl) rfl (sg_X8_looses_0 hd  H)

theorem sg_X8_draw_0 {G : kG} {d : Nat} {Q : Int32 → kM → Prop}   {h : kM} (hd : 1 ≤ d)  (H :
    ∀ h1 : kM, h1 = kU h 89 6 (((h 89 6) * (1103515245 : Int32)) + (12345 : Int32)) →
    Q ((((h1 89 6)).toUInt32 >>> (((8 : Int32)).toUInt32 &&& Int32.toUInt32 31)).toInt32) h1) : Wp G d m_X8_draw (kEo G d m_X8_draw Q) 0 [.ref 88] [] h := by
  refine wp_aload_n 1 dX8_draw_0 rfl rfl ?_
  refine wp_getR 1 89 4 dX8_draw_1 rfl fl_X8_7 kd_88 rfl rfl rfl rfl ?_
  refine wp_bipush (6 : Int32) 6 dX8_draw_4 kbipush_6 rfl ?_
  refine wp_aload_n 7 dX8_draw_6 rfl rfl ?_
  refine wp_getR 1 89 10 dX8_draw_7 rfl fl_X8_7 kd_88 rfl rfl rfl rfl ?_
  refine wp_bipush (6 : Int32) 12 dX8_draw_10 kbipush_6 rfl ?_
  refine wp_iald 13 dX8_draw_12 rfl kd_89 (by unfold vp_in; decide) ?_
  refine wp_ldc (1103515245 : Int32) 15 dX8_draw_13 lc_X8_196 rfl ?_
  refine wp_imul 16 dX8_draw_15 rfl ?_
  refine wp_sipush (12345 : Int32) 19 dX8_draw_16 ksipush_12345 rfl ?_
  refine wp_iadd 20 dX8_draw_19 rfl ?_
  refine wp_iast 21 dX8_draw_20 rfl kd_89 (by unfold vp_in; decide) ?_
  refine wp_nm (fun h1 eh1 => ?_)
  replace H := H h1 eh1
  refine wp_aload_n 22 dX8_draw_21 rfl rfl ?_
  refine wp_getR 1 89 25 dX8_draw_22 rfl fl_X8_7 kd_88 rfl rfl rfl rfl ?_
  refine wp_bipush (6 : Int32) 27 dX8_draw_25 kbipush_6 rfl ?_
  refine wp_iald 28 dX8_draw_27 rfl kd_89 (by unfold vp_in; decide) ?_
  refine wp_bipush (8 : Int32) 30 dX8_draw_28 kbipush_8 rfl ?_
  refine wp_iushr 31 dX8_draw_30 rfl ?_
  exact wp_reti dX8_draw_31 rfl H

theorem cg_X8_draw {G : kG} {d : Nat} {Q : Int32 → kM → Prop}   {h : kM} (hd : 1 ≤ d)  (H :
    ∀ h1 : kM, h1 = kU h 89 6 (((h 89 6) * (1103515245 : Int32)) + (12345 : Int32)) →
    Q ((((h1 89 6)).toUInt32 >>> (((8 : Int32)).toUInt32 &&& Int32.toUInt32 31)).toInt32) h1) : Cal G d m_X8_draw [.ref 88] h Q :=
  Cal.of [.ref 88] (by decide +kernel) (Nat.le_of_ble_eq_true rfl) rfl (sg_X8_draw_0 hd  H)

theorem sg_X8_above_0 {G : kG} {d : Nat} {Q : Int32 → kM → Prop}  {a1 : Int32} {h : kM} (hd : 1 ≤ d)  (H :
    ((¬ a1 = (4 : Int32) →
      ((¬ a1 = (5 : Int32) →
        Q (0 : Int32) h
      ) ∧ (a1 = (5 : Int32) →
        Q (2 : Int32) h
      ))
    ) ∧ (a1 = (4 : Int32) →
      Q (1 : Int32) h
    ))) : Wp G d m_X8_above (kEo G d m_X8_above Q) 0 [.int a1] [] h := by
  refine wp_iload_n 1 dX8_above_0 rfl rfl ?_
  refine wp_iconst (4 : Int32) 2 dX8_above_1 kiconst_4 rfl ?_
  refine wp_icmp_ne 9 5 dX8_above_2 rfl rfl ⟨fun c2 => ?_, fun c2 => ?_⟩
  · replace H := H.1 c2
    refine wp_iload_n 10 dX8_above_9 rfl rfl ?_
    refine wp_iconst (5 : Int32) 11 dX8_above_10 kiconst_5 rfl ?_
    refine wp_icmp_ne 18 14 dX8_above_11 rfl rfl ⟨fun c1 => ?_, fun c1 => ?_⟩
    · replace H := H.1 c1
      refine wp_iconst (0 : Int32) 19 dX8_above_18 kiconst_0 rfl ?_
      exact wp_reti dX8_above_19 rfl H
    · replace H := H.2 c1
      refine wp_iconst (2 : Int32) 15 dX8_above_14 kiconst_2 rfl ?_
      refine wp_goto 19 dX8_above_15 rfl ?_
      exact wp_reti dX8_above_19 rfl H
  · replace H := H.2 c2
    refine wp_iconst (1 : Int32) 6 dX8_above_5 kiconst_1 rfl ?_
    refine wp_goto 19 dX8_above_6 rfl ?_
    exact wp_reti dX8_above_19 rfl H

theorem cg_X8_above {G : kG} {d : Nat} {Q : Int32 → kM → Prop}  {a1 : Int32} {h : kM} (hd : 1 ≤ d)  (H :
    ((¬ a1 = (4 : Int32) →
      ((¬ a1 = (5 : Int32) →
        Q (0 : Int32) h
      ) ∧ (a1 = (5 : Int32) →
        Q (2 : Int32) h
      ))
    ) ∧ (a1 = (4 : Int32) →
      Q (1 : Int32) h
    ))) : Cal G d m_X8_above [.int a1] h Q :=
  Cal.of [.int a1] (by decide +kernel) (Nat.le_of_ble_eq_true rfl) rfl (sg_X8_above_0 hd  H)

theorem sg_X8_begins_0 {G : kG} {d : Nat} {Q : Int32 → kM → Prop}  {a1 : Int32} {h : kM} (hd : 1 ≤ d)  (H :
    (((30 : Int32) ≤ (h 88 17) →
      Q 0 h
    ) ∧ (¬ ((30 : Int32) ≤ (h 88 17)) →
      (vp_in (h 88 17) 30) ∧
      ∀ h2 : kM, h2 = kU h 97 ((h 88 17)).toNatClampNeg a1 →
      ∀ h3 : kM, h3 = kU h2 88 17 ((h2 88 17) + (1 : Int32)) →
      Q 0 h3
    ))) : Wp G d m_X8_begins (kEo G d m_X8_begins Q) 0 [.ref 88, .int a1] [] h := by
  refine wp_aload_n 1 dX8_begins_0 rfl rfl ?_
  refine wp_getI 4 dX8_begins_1 rfl fl_X8_247 kd_88 rfl ?_
  refine wp_bipush (30 : Int32) 6 dX8_begins_4 kbipush_30 rfl ?_
  refine wp_icmp_ge 29 9 dX8_begins_6 rfl rfl ⟨fun c4 => ?_, fun c4 => ?_⟩
  · replace H := H.1 c4
    exact wp_retv dX8_begins_29 rfl H
  · replace H := H.2 c4
    refine wp_aload_n 10 dX8_begins_9 rfl rfl ?_
    refine wp_getR 9 97 13 dX8_begins_10 rfl fl_X8_34 kd_88 rfl rfl rfl rfl ?_
    refine wp_aload_n 14 dX8_begins_13 rfl rfl ?_
    refine wp_getI 17 dX8_begins_14 rfl fl_X8_247 kd_88 rfl ?_
    refine wp_iload_n 18 dX8_begins_17 rfl rfl ?_
    have c1 := H.1; replace H := H.2
    refine wp_iast 19 dX8_begins_18 rfl kd_97 c1 ?_
    refine wp_nm (fun h2 eh2 => ?_)
    replace H := H h2 eh2
    refine wp_aload_n 20 dX8_begins_19 rfl rfl ?_
    refine wp_dup 21 dX8_begins_20 rfl rfl ?_
    refine wp_getI 24 dX8_begins_21 rfl fl_X8_247 kd_88 rfl ?_
    refine wp_iconst (1 : Int32) 25 dX8_begins_24 kiconst_1 rfl ?_
    refine wp_iadd 26 dX8_begins_25 rfl ?_
    refine wp_putI 29 dX8_begins_26 rfl fl_X8_247 fin_8_17 kd_88 rfl ?_
    refine wp_nm (fun h3 eh3 => ?_)
    replace H := H h3 eh3
    exact wp_retv dX8_begins_29 rfl H

theorem cg_X8_begins {G : kG} {d : Nat} {Q : Int32 → kM → Prop}  {a1 : Int32} {h : kM} (hd : 1 ≤ d)  (H :
    (((30 : Int32) ≤ (h 88 17) →
      Q 0 h
    ) ∧ (¬ ((30 : Int32) ≤ (h 88 17)) →
      (vp_in (h 88 17) 30) ∧
      ∀ h2 : kM, h2 = kU h 97 ((h 88 17)).toNatClampNeg a1 →
      ∀ h3 : kM, h3 = kU h2 88 17 ((h2 88 17) + (1 : Int32)) →
      Q 0 h3
    ))) : Cal G d m_X8_begins [.ref 88, .int a1] h Q :=
  Cal.of [.ref 88, .int a1] (by decide +kernel) (Nat.le_of_ble_eq_true rfl) rfl (sg_X8_begins_0 hd  H)

theorem sg_X8_error_0 {G : kG} {d : Nat} {Q : Int32 → kM → Prop}  {a1 : Int32} {h : kM} (hd : 1 ≤ d)  (H :
    (vp_in a1 7) ∧
    (vp_in a1 7) ∧
    ∀ h3 : kM, h3 = kU h 93 (a1).toNatClampNeg ((h 93 (a1).toNatClampNeg) + (1 : Int32)) →
    Q ((-1000000000 : Int32) - a1) h3) : Wp G d m_X8_error (kEo G d m_X8_error Q) 0 [.ref 88, .int a1] [] h := by
  refine wp_aload_n 1 dX8_error_0 rfl rfl ?_
  refine wp_getR 5 93 4 dX8_error_1 rfl fl_X8_22 kd_88 rfl rfl rfl rfl ?_
  refine wp_iload_n 5 dX8_error_4 rfl rfl ?_
  refine wp_dup2 6 dX8_error_5 rfl rfl rfl ?_
  have c1 := H.1; replace H := H.2
  refine wp_iald 7 dX8_error_6 rfl kd_93 c1 ?_
  refine wp_iconst (1 : Int32) 8 dX8_error_7 kiconst_1 rfl ?_
  refine wp_iadd 9 dX8_error_8 rfl ?_
  have c2 := H.1; replace H := H.2
  refine wp_iast 10 dX8_error_9 rfl kd_93 c2 ?_
  refine wp_nm (fun h3 eh3 => ?_)
  replace H := H h3 eh3
  refine wp_ldc (-1000000000 : Int32) 12 dX8_error_10 lc_X8_49 rfl ?_
  refine wp_iload_n 13 dX8_error_12 rfl rfl ?_
  refine wp_isub 14 dX8_error_13 rfl ?_
  exact wp_reti dX8_error_14 rfl H

theorem cg_X8_error {G : kG} {d : Nat} {Q : Int32 → kM → Prop}  {a1 : Int32} {h : kM} (hd : 1 ≤ d)  (H :
    (vp_in a1 7) ∧
    (vp_in a1 7) ∧
    ∀ h3 : kM, h3 = kU h 93 (a1).toNatClampNeg ((h 93 (a1).toNatClampNeg) + (1 : Int32)) →
    Q ((-1000000000 : Int32) - a1) h3) : Cal G d m_X8_error [.ref 88, .int a1] h Q :=
  Cal.of [.ref 88, .int a1] (by decide +kernel) (Nat.le_of_ble_eq_true rfl) rfl (sg_X8_error_0 hd  H)

theorem sg_X8_joined_0 {G : kG} {d : Nat} {Q : Int32 → kM → Prop}  {a1 : Int32} {a2 : Int32} {a3 : Int32} {h : kM} (hd : 1 ≤ d)  (H :
    ((a1 = (37 : Int32) →
      ((a3 = 0 →
        Q (0 : Int32) h
      ) ∧ (¬ (a3 = 0) →
        ((¬ a3 = (-1 : Int32) →
          (¬ a3 = 0) ∧
          Q (a2 - a2 / a3 * a3) h
        ) ∧ (a3 = (-1 : Int32) →
          Q (0 : Int32) h
        ))
      ))
    ) ∧ (¬ a1 = (37 : Int32) →
    ((a1 = (38 : Int32) →
      ((a2 = 0 →
        Q (0 : Int32) h
      ) ∧ (¬ (a2 = 0) →
        ((a3 = 0 →
          Q (0 : Int32) h
        ) ∧ (¬ (a3 = 0) →
          Q (1 : Int32) h
        ))
      ))
    ) ∧ (¬ a1 = (38 : Int32) →
    ((a1 = (42 : Int32) →
      Q (a2 * a3) h
    ) ∧ (¬ a1 = (42 : Int32) →
    ((a1 = (43 : Int32) →
      Q (a2 + a3) h
    ) ∧ (¬ a1 = (43 : Int32) →
    ((a1 = (45 : Int32) →
      Q (a2 - a3) h
    ) ∧ (¬ a1 = (45 : Int32) →
    ((a1 = (47 : Int32) →
      ((¬ a3 = 0 →
        ((¬ a3 = (-1 : Int32) →
          (¬ a3 = 0) ∧
          Q (a2 / a3) h
        ) ∧ (a3 = (-1 : Int32) →
          Q (-a2) h
        ))
      ) ∧ (a3 = 0 →
        Q (0 : Int32) h
      ))
    ) ∧ (¬ a1 = (47 : Int32) →
    ((a1 = (60 : Int32) →
      ((a3 ≤ a2 →
        Q (0 : Int32) h
      ) ∧ (¬ (a3 ≤ a2) →
        Q (1 : Int32) h
      ))
    ) ∧ (¬ a1 = (60 : Int32) →
    ((a1 = (61 : Int32) →
      ((¬ a2 = a3 →
        Q (0 : Int32) h
      ) ∧ (a2 = a3 →
        Q (1 : Int32) h
      ))
    ) ∧ (¬ a1 = (61 : Int32) →
    ((a1 = (62 : Int32) →
      ((a2 ≤ a3 →
        Q (0 : Int32) h
      ) ∧ (¬ (a2 ≤ a3) →
        Q (1 : Int32) h
      ))
    ) ∧ (¬ a1 = (62 : Int32) →
      ((¬ a2 = 0 →
        Q (1 : Int32) h
      ) ∧ (a2 = 0 →
        ((a3 = 0 →
          Q (0 : Int32) h
        ) ∧ (¬ (a3 = 0) →
          Q (1 : Int32) h
        ))
      ))
    ))))))))))))))))))) : Wp G d m_X8_joined (kEo G d m_X8_joined Q) 0 [.int a1, .int a2, .int a3] [] h := by
  refine wp_iload_n 1 dX8_joined_0 rfl rfl ?_
  refine wp_table 218 [((37 : Int32), 154), ((38 : Int32), 204), ((42 : Int32), 128), ((43 : Int32), 120), ((45 : Int32), 124), ((47 : Int32), 132), ((60 : Int32), 171), ((61 : Int32), 193), ((62 : Int32), 182)] dX8_joined_1 rfl (by decide) ?_
  refine ⟨fun c4 => ?_, fun c4 => ?_⟩
  · replace H := H.1 c4
    refine wp_iload_n 155 dX8_joined_154 rfl rfl ?_
    refine wp_if_eq 163 158 dX8_joined_155 rfl rfl ⟨fun c3 => ?_, fun c3 => ?_⟩
    · replace H := H.1 c3
      refine wp_iconst (0 : Int32) 164 dX8_joined_163 kiconst_0 rfl ?_
      refine wp_goto 170 dX8_joined_164 rfl ?_
      exact wp_reti dX8_joined_170 rfl H
    · replace H := H.2 c3
      refine wp_iload_n 159 dX8_joined_158 rfl rfl ?_
      refine wp_iconst (-1 : Int32) 160 dX8_joined_159 kiconst_m1 rfl ?_
      refine wp_icmp_ne 167 163 dX8_joined_160 rfl rfl ⟨fun c2 => ?_, fun c2 => ?_⟩
      · replace H := H.1 c2
        refine wp_iload_n 168 dX8_joined_167 rfl rfl ?_
        refine wp_iload_n 169 dX8_joined_168 rfl rfl ?_
        have c1 := H.1; replace H := H.2
        refine wp_irem 170 dX8_joined_169 c1 rfl ?_
        exact wp_reti dX8_joined_170 rfl H
      · replace H := H.2 c2
        refine wp_iconst (0 : Int32) 164 dX8_joined_163 kiconst_0 rfl ?_
        refine wp_goto 170 dX8_joined_164 rfl ?_
        exact wp_reti dX8_joined_170 rfl H
  · replace H := H.2 c4
    refine ⟨fun c7 => ?_, fun c7 => ?_⟩
    · replace H := H.1 c7
      refine wp_iload_n 205 dX8_joined_204 rfl rfl ?_
      refine wp_if_eq 216 208 dX8_joined_205 rfl rfl ⟨fun c6 => ?_, fun c6 => ?_⟩
      · replace H := H.1 c6
        refine wp_iconst (0 : Int32) 217 dX8_joined_216 kiconst_0 rfl ?_
        exact wp_reti dX8_joined_217 rfl H
      · replace H := H.2 c6
        refine wp_iload_n 209 dX8_joined_208 rfl rfl ?_
        refine wp_if_eq 216 212 dX8_joined_209 rfl rfl ⟨fun c5 => ?_, fun c5 => ?_⟩
        · replace H := H.1 c5
          refine wp_iconst (0 : Int32) 217 dX8_joined_216 kiconst_0 rfl ?_
          exact wp_reti dX8_joined_217 rfl H
        · replace H := H.2 c5
          refine wp_iconst (1 : Int32) 213 dX8_joined_212 kiconst_1 rfl ?_
          refine wp_goto 217 dX8_joined_213 rfl ?_
          exact wp_reti dX8_joined_217 rfl H
    · replace H := H.2 c7
      refine ⟨fun c8 => ?_, fun c8 => ?_⟩
      · replace H := H.1 c8
        refine wp_iload_n 129 dX8_joined_128 rfl rfl ?_
        refine wp_iload_n 130 dX8_joined_129 rfl rfl ?_
        refine wp_imul 131 dX8_joined_130 rfl ?_
        exact wp_reti dX8_joined_131 rfl H
      · replace H := H.2 c8
        refine ⟨fun c9 => ?_, fun c9 => ?_⟩
        · replace H := H.1 c9
          refine wp_iload_n 121 dX8_joined_120 rfl rfl ?_
          refine wp_iload_n 122 dX8_joined_121 rfl rfl ?_
          refine wp_iadd 123 dX8_joined_122 rfl ?_
          exact wp_reti dX8_joined_123 rfl H
        · replace H := H.2 c9
          refine ⟨fun c10 => ?_, fun c10 => ?_⟩
          · replace H := H.1 c10
            refine wp_iload_n 125 dX8_joined_124 rfl rfl ?_
            refine wp_iload_n 126 dX8_joined_125 rfl rfl ?_
            refine wp_isub 127 dX8_joined_126 rfl ?_
            exact wp_reti dX8_joined_127 rfl H
          · replace H := H.2 c10
            refine ⟨fun c14 => ?_, fun c14 => ?_⟩
            · replace H := H.1 c14
              refine wp_iload_n 133 dX8_joined_132 rfl rfl ?_
              refine wp_if_ne 140 136 dX8_joined_133 rfl rfl ⟨fun c13 => ?_, fun c13 => ?_⟩
              · replace H := H.1 c13
                refine wp_iload_n 141 dX8_joined_140 rfl rfl ?_
                refine wp_iconst (-1 : Int32) 142 dX8_joined_141 kiconst_m1 rfl ?_
                refine wp_icmp_ne 150 145 dX8_joined_142 rfl rfl ⟨fun c12 => ?_, fun c12 => ?_⟩
                · replace H := H.1 c12
                  refine wp_iload_n 151 dX8_joined_150 rfl rfl ?_
                  refine wp_iload_n 152 dX8_joined_151 rfl rfl ?_
                  have c11 := H.1; replace H := H.2
                  refine wp_idiv 153 dX8_joined_152 c11 rfl ?_
                  exact wp_reti dX8_joined_153 rfl H
                · replace H := H.2 c12
                  refine wp_iload_n 146 dX8_joined_145 rfl rfl ?_
                  refine wp_ineg 147 dX8_joined_146 rfl ?_
                  refine wp_goto 153 dX8_joined_147 rfl ?_
                  exact wp_reti dX8_joined_153 rfl H
              · replace H := H.2 c13
                refine wp_iconst (0 : Int32) 137 dX8_joined_136 kiconst_0 rfl ?_
                refine wp_goto 153 dX8_joined_137 rfl ?_
                exact wp_reti dX8_joined_153 rfl H
            · replace H := H.2 c14
              refine ⟨fun c16 => ?_, fun c16 => ?_⟩
              · replace H := H.1 c16
                refine wp_iload_n 172 dX8_joined_171 rfl rfl ?_
                refine wp_iload_n 173 dX8_joined_172 rfl rfl ?_
                refine wp_icmp_ge 180 176 dX8_joined_173 rfl rfl ⟨fun c15 => ?_, fun c15 => ?_⟩
                · replace H := H.1 c15
                  refine wp_iconst (0 : Int32) 181 dX8_joined_180 kiconst_0 rfl ?_
                  exact wp_reti dX8_joined_181 rfl H
                · replace H := H.2 c15
                  refine wp_iconst (1 : Int32) 177 dX8_joined_176 kiconst_1 rfl ?_
                  refine wp_goto 181 dX8_joined_177 rfl ?_
                  exact wp_reti dX8_joined_181 rfl H
              · replace H := H.2 c16
                refine ⟨fun c18 => ?_, fun c18 => ?_⟩
                · replace H := H.1 c18
                  refine wp_iload_n 194 dX8_joined_193 rfl rfl ?_
                  refine wp_iload_n 195 dX8_joined_194 rfl rfl ?_
                  refine wp_icmp_ne 202 198 dX8_joined_195 rfl rfl ⟨fun c17 => ?_, fun c17 => ?_⟩
                  · replace H := H.1 c17
                    refine wp_iconst (0 : Int32) 203 dX8_joined_202 kiconst_0 rfl ?_
                    exact wp_reti dX8_joined_203 rfl H
                  · replace H := H.2 c17
                    refine wp_iconst (1 : Int32) 199 dX8_joined_198 kiconst_1 rfl ?_
                    refine wp_goto 203 dX8_joined_199 rfl ?_
                    exact wp_reti dX8_joined_203 rfl H
                · replace H := H.2 c18
                  refine ⟨fun c20 => ?_, fun c20 => ?_⟩
                  · replace H := H.1 c20
                    refine wp_iload_n 183 dX8_joined_182 rfl rfl ?_
                    refine wp_iload_n 184 dX8_joined_183 rfl rfl ?_
                    refine wp_icmp_le 191 187 dX8_joined_184 rfl rfl ⟨fun c19 => ?_, fun c19 => ?_⟩
                    · replace H := H.1 c19
                      refine wp_iconst (0 : Int32) 192 dX8_joined_191 kiconst_0 rfl ?_
                      exact wp_reti dX8_joined_192 rfl H
                    · replace H := H.2 c19
                      refine wp_iconst (1 : Int32) 188 dX8_joined_187 kiconst_1 rfl ?_
                      refine wp_goto 192 dX8_joined_188 rfl ?_
                      exact wp_reti dX8_joined_192 rfl H
                  · replace H := H.2 c20
                    show Wp _ _ _ _ _ _ _ _
                    refine wp_iload_n 219 dX8_joined_218 rfl rfl ?_
                    refine wp_if_ne 226 222 dX8_joined_219 rfl rfl ⟨fun c22 => ?_, fun c22 => ?_⟩
                    · replace H := H.1 c22
                      refine wp_iconst (1 : Int32) 227 dX8_joined_226 kiconst_1 rfl ?_
                      refine wp_goto 231 dX8_joined_227 rfl ?_
                      exact wp_reti dX8_joined_231 rfl H
                    · replace H := H.2 c22
                      refine wp_iload_n 223 dX8_joined_222 rfl rfl ?_
                      refine wp_if_eq 230 226 dX8_joined_223 rfl rfl ⟨fun c21 => ?_, fun c21 => ?_⟩
                      · replace H := H.1 c21
                        refine wp_iconst (0 : Int32) 231 dX8_joined_230 kiconst_0 rfl ?_
                        exact wp_reti dX8_joined_231 rfl H
                      · replace H := H.2 c21
                        refine wp_iconst (1 : Int32) 227 dX8_joined_226 kiconst_1 rfl ?_
                        refine wp_goto 231 dX8_joined_227 rfl ?_
                        exact wp_reti dX8_joined_231 rfl H

theorem cg_X8_joined {G : kG} {d : Nat} {Q : Int32 → kM → Prop}  {a1 : Int32} {a2 : Int32} {a3 : Int32} {h : kM} (hd : 1 ≤ d)  (H :
    ((a1 = (37 : Int32) →
      ((a3 = 0 →
        Q (0 : Int32) h
      ) ∧ (¬ (a3 = 0) →
        ((¬ a3 = (-1 : Int32) →
          (¬ a3 = 0) ∧
          Q (a2 - a2 / a3 * a3) h
        ) ∧ (a3 = (-1 : Int32) →
          Q (0 : Int32) h
        ))
      ))
    ) ∧ (¬ a1 = (37 : Int32) →
    ((a1 = (38 : Int32) →
      ((a2 = 0 →
        Q (0 : Int32) h
      ) ∧ (¬ (a2 = 0) →
        ((a3 = 0 →
          Q (0 : Int32) h
        ) ∧ (¬ (a3 = 0) →
          Q (1 : Int32) h
        ))
      ))
    ) ∧ (¬ a1 = (38 : Int32) →
    ((a1 = (42 : Int32) →
      Q (a2 * a3) h
    ) ∧ (¬ a1 = (42 : Int32) →
    ((a1 = (43 : Int32) →
      Q (a2 + a3) h
    ) ∧ (¬ a1 = (43 : Int32) →
    ((a1 = (45 : Int32) →
      Q (a2 - a3) h
    ) ∧ (¬ a1 = (45 : Int32) →
    ((a1 = (47 : Int32) →
      ((¬ a3 = 0 →
        ((¬ a3 = (-1 : Int32) →
          (¬ a3 = 0) ∧
          Q (a2 / a3) h
        ) ∧ (a3 = (-1 : Int32) →
          Q (-a2) h
        ))
      ) ∧ (a3 = 0 →
        Q (0 : Int32) h
      ))
    ) ∧ (¬ a1 = (47 : Int32) →
    ((a1 = (60 : Int32) →
      ((a3 ≤ a2 →
        Q (0 : Int32) h
      ) ∧ (¬ (a3 ≤ a2) →
        Q (1 : Int32) h
      ))
    ) ∧ (¬ a1 = (60 : Int32) →
    ((a1 = (61 : Int32) →
      ((¬ a2 = a3 →
        Q (0 : Int32) h
      ) ∧ (a2 = a3 →
        Q (1 : Int32) h
      ))
    ) ∧ (¬ a1 = (61 : Int32) →
    ((a1 = (62 : Int32) →
      ((a2 ≤ a3 →
        Q (0 : Int32) h
      ) ∧ (¬ (a2 ≤ a3) →
        Q (1 : Int32) h
      ))
    ) ∧ (¬ a1 = (62 : Int32) →
      ((¬ a2 = 0 →
        Q (1 : Int32) h
      ) ∧ (a2 = 0 →
        ((a3 = 0 →
          Q (0 : Int32) h
        ) ∧ (¬ (a3 = 0) →
          Q (1 : Int32) h
        ))
      ))
    ))))))))))))))))))) : Cal G d m_X8_joined [.int a1, .int a2, .int a3] h Q :=
  Cal.of [.int a1, .int a2, .int a3] (by decide +kernel) (Nat.le_of_ble_eq_true rfl) rfl (sg_X8_joined_0 hd  H)

theorem sp_X8_in (hd : 1 ≤ d) {x y z : Int32} (k : Q (kb (y ≤ x ∧ x ≤ z)) h) : Cal G d m_X8_in [.int x, .int y, .int z] h Q :=
  cg_X8_in hd ⟨fun c => kq0 k (fun q => ltn c q.1), fun c => ⟨fun c2 => kq0 k (fun q => ltn c2 q.2), fun c2 => kq1 k ⟨nlt c, nlt c2⟩⟩⟩
def mHeld (v l m : Int32) : Int32 := if l ≤ v then (if v ≤ m then v else m) else l
theorem sp_X8_held (hd : 1 ≤ d) {v l m : Int32} (k : Q (mHeld v l m) h) : Cal G d m_X8_held [.int v, .int l, .int m] h Q := by
  unfold mHeld at k
  refine cg_X8_held hd ⟨fun c => ?_, fun c => by rw [if_neg c] at k; exact k⟩
  rw [if_pos c] at k
  exact ⟨fun c => by rw [if_pos c] at k; exact k, fun c => by rw [if_neg c] at k; exact k⟩
theorem sp_X8_of (hd : 1 ≤ d) {p w : Int32} (ho : okO p w) (k : Q (mOf (h 89) p w) h) : Cal G d m_X8_of [.ref 88, .int p, .int w] h Q := cg_X8_of hd ⟨ho, k⟩
theorem sp_X8_lays1 (hd : 1 ≤ d) {p w v : Int32} (ho : okO p w) (k : ∀ h1, h1 = mLay h p w v → Q 0 h1) : Cal G d m_X8_lays1 [.ref 88, .int p, .int w, .int v] h Q := cg_X8_lays1 hd ⟨ho, k⟩
theorem sp_X8_its (hd : 1 ≤ d) {p w : Int32} (ho : okI p w) (k : Q (mIt (h 89) p w) h) : Cal G d m_X8_its [.ref 88, .int p, .int w] h Q := cg_X8_its hd ⟨ho, k⟩
theorem sp_X8_change1 (hd : 1 ≤ d) {a v : Int32} (ho : vp_in a 481) (k : ∀ h1, h1 = kU h 89 a.toNatClampNeg v → Q (h 89 a.toNatClampNeg) h1) : Cal G d m_X8_change1 [.ref 88, .int a, .int v] h Q := cg_X8_change1 hd ⟨ho, ho, k⟩
abbrev okL (h : kM) : Prop := h 88 6 < h 89 4 → vp_in (397 + h 88 6) 481
def mLook (h : kM) : Int32 := if h 88 6 < h 89 4 then h 89 (397 + h 88 6).toNatClampNeg else -1
theorem sp_X8_look (hd : 1 ≤ d) (ho : okL h) (k : Q (mLook h) h) : Cal G d m_X8_look [.ref 88] h Q := by
  unfold mLook at k
  exact cg_X8_look hd ⟨fun c => by rw [if_neg (len c)] at k; exact k, fun c => ⟨ho (nle c), by rw [if_pos (nle c)] at k; exact k⟩⟩
abbrev mNm (u c : Int32) : Prop := c = 109 ∨ (u = 0 ∧ (c = 104 ∨ c = 119)) ∨ (¬ u = 0 ∧ (c = 107 ∨ c = 110))
theorem sp_X8_isName (hd : 1 ≤ d) {c : Int32} (k : Q (kb (mNm (h 88 9) c)) h) : Cal G d m_X8_isName [.ref 88, .int c] h Q := by
  refine cg_X8_isName hd ⟨fun c1 => ⟨fun c2 => ⟨fun c3 => kq1 k (Or.inr (Or.inr ⟨c2, Or.inl c3⟩)), fun c3 => ⟨fun c4 => kq0 k ?_, fun c4 => kq1 k (Or.inr (Or.inr ⟨c2, Or.inr c4⟩))⟩⟩, fun c2 => ⟨fun c3 => kq1 k (Or.inr (Or.inl ⟨c2, Or.inl c3⟩)), fun c3 => ⟨fun c4 => kq0 k ?_, fun c4 => kq1 k (Or.inr (Or.inl ⟨c2, Or.inr c4⟩))⟩⟩⟩, fun c1 => kq1 k (Or.inl c1)⟩
  · rintro (q | ⟨q, -⟩ | ⟨-, q | q⟩)
    · exact c1 q
    · exact c2 q
    · exact c3 q
    · exact c4 q
  · rintro (q | ⟨-, q | q⟩ | ⟨q, -⟩)
    · exact c1 q
    · exact c3 q
    · exact c4 q
    · exact q c2
abbrev okS (h : kM) : Prop := vp_in (2 * h 88 8) 124 ∧ vp_in (2 * h 88 8 + 1) 124
def mStep (h : kM) (w v : Int32) : kM := kU (kU (kU h 94 (2 * h 88 8).toNatClampNeg w) 94 (2 * h 88 8 + 1).toNatClampNeg v) 88 8 (h 88 8 + 1)
theorem sp_X8_step1 (hd : 1 ≤ d) {w v : Int32} (ho : okS h) (k : ∀ h1, h1 = mStep h w v → Q 0 h1) : Cal G d m_X8_step1 [.ref 88, .int w, .int v] h Q := by
  refine cg_X8_step1 hd ⟨ho.1, fun h1 e1 => ?_⟩
  have e2 : h1 88 = h 88 := by rw [e1, kU_ne (by decide)]
  rw [e2]
  refine ⟨ho.2, fun h3 e3 h4 e4 => k h4 ?_⟩
  have e5 : h3 88 = h 88 := by rw [e3, kU_ne (by decide), e2]
  rw [e4, e5, e3, e1]
  rfl
def mOpen (h : kM) : kM := if h 88 7 = 5 then h else kU (kU h 88 7 (h 88 7 + 1)) 88 6 (h 88 6 + 1)
theorem sp_X8_opens (hd : 1 ≤ d) (k : ∀ h1, h1 = mOpen h → Q (kb (¬ h 88 7 = 5)) h1) : Cal G d m_X8_opens [.ref 88] h Q := by
  unfold mOpen at k
  refine cg_X8_opens hd ⟨fun c h1 e1 h2 e2 => ?_, fun c => ?_⟩
  · rw [if_neg c] at k
    refine kq1 (k h2 ?_) c
    rw [e2, e1, kU_eq]
    simp [upd]
  · rw [if_pos c] at k
    exact kq0 (k h rfl) (fun q => q c)
theorem sp_X8_hasText (hd : 1 ≤ d) {u : Int32} (ho : vp_in (147 + 125 * u) 481) (k : Q (kb (0 < h 89 (147 + 125 * u).toNatClampNeg)) h) : Cal G d m_X8_hasText [.ref 88, .int u] h Q :=
  cg_X8_hasText hd ⟨ho, fun c => kq0 k (len c), fun c => kq1 k (nle c)⟩
def mTie (h : kM) (k km w : Int32) : kM := kU (kU (kU (kU h 89 (87 + 4 * k + 0).toNatClampNeg (km / 10)) 89 (87 + 4 * k + 1).toNatClampNeg (iR km 10)) 89 (87 + 4 * k + 2).toNatClampNeg w) 89 (87 + 4 * k + 3).toNatClampNeg (-1)
theorem sp_X8_ties (hd : 1 ≤ d) {k km w : Int32} (ho : okI k 0 ∧ okI k 1 ∧ okI k 2 ∧ okI k 3) (kk : ∀ h1, h1 = mTie h k km w → Q 0 h1) : Cal G d m_X8_ties [.ref 88, .int k, .int km, .int w] h Q := by
  refine cg_X8_ties hd ⟨ho.1, fun h1 e1 => ⟨ho.2.1, fun h2 e2 => ⟨ho.2.2.1, fun h3 e3 => ⟨ho.2.2.2, fun h4 e4 => kk h4 ?_⟩⟩⟩⟩
  rw [e4, e3, e2, e1]
  rfl
def mLo (h : kM) (k : Int32) : kM := kU h 89 (87 + 4 * k + 3).toNatClampNeg (h 89 1)
theorem sp_X8_looses (hd : 1 ≤ d) {k : Int32} (ho : okI k 3) (kk : ∀ h1, h1 = mLo h k → Q 0 h1) : Cal G d m_X8_looses [.ref 88, .int k] h Q := cg_X8_looses hd ⟨ho, kk⟩
theorem sp_X8_draw (hd : 1 ≤ d) (k : ∀ h1, h1 = kU h 89 6 (h 89 6 * 1103515245 + 12345) → Q (kDraw (h 89 6)) h1) : Cal G d m_X8_draw [.ref 88] h Q := by
  apply cg_X8_draw hd
  intro h1 e1
  have h2 := k h1 e1
  have e2 : h1 89 6 = h 89 6 * 1103515245 + 12345 := by
    rw [e1, kU_eq]
    exact if_pos rfl
  rw [e2]
  exact h2
def mAb (k : Int32) : Int32 := if k = 4 then 1 else if k = 5 then 2 else 0
theorem sp_X8_above (hd : 1 ≤ d) {x : Int32} (k : Q (mAb x) h) : Cal G d m_X8_above [.int x] h Q := by
  unfold mAb at k
  refine cg_X8_above hd ⟨fun c => ?_, fun c => by rw [if_pos c] at k; exact k⟩
  rw [if_neg c] at k
  exact ⟨fun c => by rw [if_neg c] at k; exact k, fun c => by rw [if_pos c] at k; exact k⟩
def mBeg (h : kM) (b : Int32) : kM := if 30 ≤ h 88 17 then h else kU (kU h 97 (h 88 17).toNatClampNeg b) 88 17 (h 88 17 + 1)
theorem sp_X8_begins (hd : 1 ≤ d) {b : Int32} (ho : ¬ 30 ≤ h 88 17 → vp_in (h 88 17) 30) (k : ∀ h1, h1 = mBeg h b → Q 0 h1) : Cal G d m_X8_begins [.ref 88, .int b] h Q := by
  unfold mBeg at k
  refine cg_X8_begins hd ⟨fun c => by rw [if_pos c] at k; exact k h rfl, fun c => ⟨ho c, fun h1 e1 h2 e2 => k h2 ?_⟩⟩
  rw [if_neg c, e2, e1, kU_ne (by decide)]
theorem sp_X8_error (hd : 1 ≤ d) {e : Int32} (he : vp_in e 7) (k : ∀ h1, h1 = kErr h 93 e → Q (-1000000000 - e) h1) : Cal G d m_X8_error [.ref 88, .int e] h Q := cg_X8_error hd ⟨he, he, k⟩
theorem sg_X8_isCell_0 {G : kG} {d : Nat} {Q : Int32 → kM → Prop}  {a1 : Int32} {h : kM} (hd : 2 ≤ d)  (H :
    Q (kb ((0 : Int32) ≤ a1 ∧ a1 ≤ (63 : Int32))) h) : Wp G d m_X8_isCell (kEo G d m_X8_isCell Q) 0 [.int a1] [] h := by
  refine wp_iload_n 1 dX8_isCell_0 rfl rfl ?_
  refine wp_iconst (0 : Int32) 2 dX8_isCell_1 kiconst_0 rfl ?_
  refine wp_bipush (63 : Int32) 4 dX8_isCell_2 kbipush_63 rfl ?_
  refine wp_cS (d - 1) 3 [.int a1, .int (0 : Int32), .int (63 : Int32)] [] 7 dX8_isCell_4 rfl (lk_X8_50 rfl) (by omega) rfl rfl (Nat.le_of_ble_eq_true rfl) (sp_X8_in (by omega)  ?_)
  exact wp_retz dX8_isCell_7 rfl (kb_01 _) H

theorem cg_X8_isCell {G : kG} {d : Nat} {Q : Int32 → kM → Prop}  {a1 : Int32} {h : kM} (hd : 2 ≤ d)  (H :
    Q (kb ((0 : Int32) ≤ a1 ∧ a1 ≤ (63 : Int32))) h) : Cal G d m_X8_isCell [.int a1] h Q :=
  Cal.of [.int a1] (by decide +kernel) (Nat.le_of_ble_eq_true rfl) rfl (sg_X8_isCell_0 hd  H)

theorem sg_X8_isShip_0 {G : kG} {d : Nat} {Q : Int32 → kM → Prop}  {a1 : Int32} {h : kM} (hd : 2 ≤ d)  (H :
    Q (kb ((0 : Int32) ≤ a1 ∧ a1 ≤ ((h 89 0) - (1 : Int32)))) h) : Wp G d m_X8_isShip (kEo G d m_X8_isShip Q) 0 [.ref 88, .int a1] [] h := by
  refine wp_iload_n 1 dX8_isShip_0 rfl rfl ?_
  refine wp_iconst (0 : Int32) 2 dX8_isShip_1 kiconst_0 rfl ?_
  refine wp_aload_n 3 dX8_isShip_2 rfl rfl ?_
  refine wp_getR 1 89 6 dX8_isShip_3 rfl fl_X8_7 kd_88 rfl rfl rfl rfl ?_
  refine wp_iconst (0 : Int32) 7 dX8_isShip_6 kiconst_0 rfl ?_
  refine wp_iald 8 dX8_isShip_7 rfl kd_89 (by unfold vp_in; decide) ?_
  refine wp_iconst (1 : Int32) 9 dX8_isShip_8 kiconst_1 rfl ?_
  refine wp_isub 10 dX8_isShip_9 rfl ?_
  refine wp_cS (d - 1) 3 [.int a1, .int (0 : Int32), .int ((h 89 0) - (1 : Int32))] [] 13 dX8_isShip_10 rfl (lk_X8_50 rfl) (by omega) rfl rfl (Nat.le_of_ble_eq_true rfl) (sp_X8_in (by omega)  ?_)
  exact wp_retz dX8_isShip_13 rfl (kb_01 _) H

theorem cg_X8_isShip {G : kG} {d : Nat} {Q : Int32 → kM → Prop}  {a1 : Int32} {h : kM} (hd : 2 ≤ d)  (H :
    Q (kb ((0 : Int32) ≤ a1 ∧ a1 ≤ ((h 89 0) - (1 : Int32)))) h) : Cal G d m_X8_isShip [.ref 88, .int a1] h Q :=
  Cal.of [.ref 88, .int a1] (by decide +kernel) (Nat.le_of_ble_eq_true rfl) rfl (sg_X8_isShip_0 hd  H)

theorem sg_X8_isTied_0 {G : kG} {d : Nat} {Q : Int32 → kM → Prop}  {a1 : Int32} {h : kM} (hd : 2 ≤ d)  (H :
    (okI a1 (3 : Int32)) ∧
    ((¬ (mIt (h 89) a1 (3 : Int32)) = (-1 : Int32) →
      Q (0 : Int32) h
    ) ∧ ((mIt (h 89) a1 (3 : Int32)) = (-1 : Int32) →
      Q (1 : Int32) h
    ))) : Wp G d m_X8_isTied (kEo G d m_X8_isTied Q) 0 [.ref 88, .int a1] [] h := by
  refine wp_aload_n 1 dX8_isTied_0 rfl rfl ?_
  refine wp_iload_n 2 dX8_isTied_1 rfl rfl ?_
  refine wp_iconst (3 : Int32) 3 dX8_isTied_2 kiconst_3 rfl ?_
  have c1 := H.1; replace H := H.2
  refine wp_cV (d - 1) 2 [.int a1, .int (3 : Int32)] [] 6 dX8_isTied_3 rfl (lk_X8_58 rfl) (by omega) kd_88 rfl rfl rfl (Nat.le_of_ble_eq_true rfl) (sp_X8_its (by omega) c1 ?_)
  refine wp_iconst (-1 : Int32) 7 dX8_isTied_6 kiconst_m1 rfl ?_
  refine wp_icmp_ne 14 10 dX8_isTied_7 rfl rfl ⟨fun c2 => ?_, fun c2 => ?_⟩
  · replace H := H.1 c2
    refine wp_iconst (0 : Int32) 15 dX8_isTied_14 kiconst_0 rfl ?_
    exact wp_retz dX8_isTied_15 rfl (Or.inl rfl) H
  · replace H := H.2 c2
    refine wp_iconst (1 : Int32) 11 dX8_isTied_10 kiconst_1 rfl ?_
    refine wp_goto 15 dX8_isTied_11 rfl ?_
    exact wp_retz dX8_isTied_15 rfl (Or.inr rfl) H

theorem cg_X8_isTied {G : kG} {d : Nat} {Q : Int32 → kM → Prop}  {a1 : Int32} {h : kM} (hd : 2 ≤ d)  (H :
    (okI a1 (3 : Int32)) ∧
    ((¬ (mIt (h 89) a1 (3 : Int32)) = (-1 : Int32) →
      Q (0 : Int32) h
    ) ∧ ((mIt (h 89) a1 (3 : Int32)) = (-1 : Int32) →
      Q (1 : Int32) h
    ))) : Cal G d m_X8_isTied [.ref 88, .int a1] h Q :=
  Cal.of [.ref 88, .int a1] (by decide +kernel) (Nat.le_of_ble_eq_true rfl) rfl (sg_X8_isTied_0 hd  H)

theorem sg_X8_isDay_0 {G : kG} {d : Nat} {Q : Int32 → kM → Prop}   {h : kM} (hd : 2 ≤ d)  (H :
    Q (kb ((6 : Int32) ≤ ((h 89 1) - (h 89 1) / (24 : Int32) * (24 : Int32)) ∧ ((h 89 1) - (h 89 1) / (24 : Int32) * (24 : Int32)) ≤ (17 : Int32))) h) : Wp G d m_X8_isDay (kEo G d m_X8_isDay Q) 0 [.ref 88] [] h := by
  refine wp_aload_n 1 dX8_isDay_0 rfl rfl ?_
  refine wp_getR 1 89 4 dX8_isDay_1 rfl fl_X8_7 kd_88 rfl rfl rfl rfl ?_
  refine wp_iconst (1 : Int32) 5 dX8_isDay_4 kiconst_1 rfl ?_
  refine wp_iald 6 dX8_isDay_5 rfl kd_89 (by unfold vp_in; decide) ?_
  refine wp_bipush (24 : Int32) 8 dX8_isDay_6 kbipush_24 rfl ?_
  refine wp_irem 9 dX8_isDay_8 (by decide) rfl ?_
  refine wp_bipush (6 : Int32) 11 dX8_isDay_9 kbipush_6 rfl ?_
  refine wp_bipush (17 : Int32) 13 dX8_isDay_11 kbipush_17 rfl ?_
  refine wp_cS (d - 1) 3 [.int ((h 89 1) - (h 89 1) / (24 : Int32) * (24 : Int32)), .int (6 : Int32), .int (17 : Int32)] [] 16 dX8_isDay_13 rfl (lk_X8_50 rfl) (by omega) rfl rfl (Nat.le_of_ble_eq_true rfl) (sp_X8_in (by omega)  ?_)
  exact wp_retz dX8_isDay_16 rfl (kb_01 _) H

theorem cg_X8_isDay {G : kG} {d : Nat} {Q : Int32 → kM → Prop}   {h : kM} (hd : 2 ≤ d)  (H :
    Q (kb ((6 : Int32) ≤ ((h 89 1) - (h 89 1) / (24 : Int32) * (24 : Int32)) ∧ ((h 89 1) - (h 89 1) / (24 : Int32) * (24 : Int32)) ≤ (17 : Int32))) h) : Cal G d m_X8_isDay [.ref 88] h Q :=
  Cal.of [.ref 88] (by decide +kernel) (Nat.le_of_ble_eq_true rfl) rfl (sg_X8_isDay_0 hd  H)

theorem sg_X8_kindNow_0 {G : kG} {d : Nat} {Q : Int32 → kM → Prop}   {h : kM} (hd : 2 ≤ d)  (H :
    (okI (h 88 18) (0 : Int32)) ∧
    Q (mIt (h 89) (h 88 18) (0 : Int32)) h) : Wp G d m_X8_kindNow (kEo G d m_X8_kindNow Q) 0 [.ref 88] [] h := by
  refine wp_aload_n 1 dX8_kindNow_0 rfl rfl ?_
  refine wp_aload_n 2 dX8_kindNow_1 rfl rfl ?_
  refine wp_getI 5 dX8_kindNow_2 rfl fl_X8_250 kd_88 rfl ?_
  refine wp_iconst (0 : Int32) 6 dX8_kindNow_5 kiconst_0 rfl ?_
  have c1 := H.1; replace H := H.2
  refine wp_cV (d - 1) 2 [.int (h 88 18), .int (0 : Int32)] [] 9 dX8_kindNow_6 rfl (lk_X8_58 rfl) (by omega) kd_88 rfl rfl rfl (Nat.le_of_ble_eq_true rfl) (sp_X8_its (by omega) c1 ?_)
  exact wp_reti dX8_kindNow_9 rfl H

theorem cg_X8_kindNow {G : kG} {d : Nat} {Q : Int32 → kM → Prop}   {h : kM} (hd : 2 ≤ d)  (H :
    (okI (h 88 18) (0 : Int32)) ∧
    Q (mIt (h 89) (h 88 18) (0 : Int32)) h) : Cal G d m_X8_kindNow [.ref 88] h Q :=
  Cal.of [.ref 88] (by decide +kernel) (Nat.le_of_ble_eq_true rfl) rfl (sg_X8_kindNow_0 hd  H)

theorem sg_X8_mNow_0 {G : kG} {d : Nat} {Q : Int32 → kM → Prop}   {h : kM} (hd : 2 ≤ d)  (H :
    (okI (h 88 18) (1 : Int32)) ∧
    Q (mIt (h 89) (h 88 18) (1 : Int32)) h) : Wp G d m_X8_mNow (kEo G d m_X8_mNow Q) 0 [.ref 88] [] h := by
  refine wp_aload_n 1 dX8_mNow_0 rfl rfl ?_
  refine wp_aload_n 2 dX8_mNow_1 rfl rfl ?_
  refine wp_getI 5 dX8_mNow_2 rfl fl_X8_250 kd_88 rfl ?_
  refine wp_iconst (1 : Int32) 6 dX8_mNow_5 kiconst_1 rfl ?_
  have c1 := H.1; replace H := H.2
  refine wp_cV (d - 1) 2 [.int (h 88 18), .int (1 : Int32)] [] 9 dX8_mNow_6 rfl (lk_X8_58 rfl) (by omega) kd_88 rfl rfl rfl (Nat.le_of_ble_eq_true rfl) (sp_X8_its (by omega) c1 ?_)
  exact wp_reti dX8_mNow_9 rfl H

theorem cg_X8_mNow {G : kG} {d : Nat} {Q : Int32 → kM → Prop}   {h : kM} (hd : 2 ≤ d)  (H :
    (okI (h 88 18) (1 : Int32)) ∧
    Q (mIt (h 89) (h 88 18) (1 : Int32)) h) : Cal G d m_X8_mNow [.ref 88] h Q :=
  Cal.of [.ref 88] (by decide +kernel) (Nat.le_of_ble_eq_true rfl) rfl (sg_X8_mNow_0 hd  H)

theorem sg_X8_isSheet_0 {G : kG} {d : Nat} {Q : Int32 → kM → Prop}  {a1 : Int32} {h : kM} (hd : 2 ≤ d)  (H :
    Q (kb ((0 : Int32) ≤ a1 ∧ a1 ≤ (3 : Int32))) h) : Wp G d m_X8_isSheet (kEo G d m_X8_isSheet Q) 0 [.int a1] [] h := by
  refine wp_iload_n 1 dX8_isSheet_0 rfl rfl ?_
  refine wp_iconst (0 : Int32) 2 dX8_isSheet_1 kiconst_0 rfl ?_
  refine wp_iconst (3 : Int32) 3 dX8_isSheet_2 kiconst_3 rfl ?_
  refine wp_cS (d - 1) 3 [.int a1, .int (0 : Int32), .int (3 : Int32)] [] 6 dX8_isSheet_3 rfl (lk_X8_50 rfl) (by omega) rfl rfl (Nat.le_of_ble_eq_true rfl) (sp_X8_in (by omega)  ?_)
  exact wp_retz dX8_isSheet_6 rfl (kb_01 _) H

theorem cg_X8_isSheet {G : kG} {d : Nat} {Q : Int32 → kM → Prop}  {a1 : Int32} {h : kM} (hd : 2 ≤ d)  (H :
    Q (kb ((0 : Int32) ≤ a1 ∧ a1 ≤ (3 : Int32))) h) : Cal G d m_X8_isSheet [.int a1] h Q :=
  Cal.of [.int a1] (by decide +kernel) (Nat.le_of_ble_eq_true rfl) rfl (sg_X8_isSheet_0 hd  H)

theorem sp_X8_isCell (hd : 2 ≤ d) {c : Int32} (k : Q (kb (0 ≤ c ∧ c ≤ 63)) h) : Cal G d m_X8_isCell [.int c] h Q := cg_X8_isCell hd k
theorem sp_X8_isShip (hd : 2 ≤ d) {c : Int32} (k : Q (kb (0 ≤ c ∧ c ≤ h 89 0 - 1)) h) : Cal G d m_X8_isShip [.ref 88, .int c] h Q := cg_X8_isShip hd k
theorem sp_X8_isTied (hd : 2 ≤ d) {c : Int32} (ho : okI c 3) (k : Q (kb (mIt (h 89) c 3 = -1)) h) : Cal G d m_X8_isTied [.ref 88, .int c] h Q :=
  cg_X8_isTied hd ⟨ho, fun c => kq0 k c, fun c => kq1 k c⟩
theorem sp_X8_isDay (hd : 2 ≤ d) (k : Q (kb (kDay (h 89 1))) h) : Cal G d m_X8_isDay [.ref 88] h Q := cg_X8_isDay hd k
theorem sp_X8_kindNow (hd : 2 ≤ d) (ho : okI (h 88 18) 0) (k : Q (mIt (h 89) (h 88 18) 0) h) : Cal G d m_X8_kindNow [.ref 88] h Q := cg_X8_kindNow hd ⟨ho, k⟩
theorem sp_X8_mNow (hd : 2 ≤ d) (ho : okI (h 88 18) 1) (k : Q (mIt (h 89) (h 88 18) 1) h) : Cal G d m_X8_mNow [.ref 88] h Q := cg_X8_mNow hd ⟨ho, k⟩
theorem sp_X8_isSheet (hd : 2 ≤ d) {c : Int32} (k : Q (kb (0 ≤ c ∧ c ≤ 3)) h) : Cal G d m_X8_isSheet [.int c] h Q := cg_X8_isSheet hd k
theorem sg_X8_isKnot_0 {G : kG} {d : Nat} {Q : Int32 → kM → Prop}  {a1 : Int32} {a2 : Int32} {h : kM} (hd : 3 ≤ d)  (H :
    (((kb (0 ≤ a1 ∧ a1 ≤ h 89 0 - 1)) = 0 →
      Q (0 : Int32) h
    ) ∧ (¬ ((kb (0 ≤ a1 ∧ a1 ≤ h 89 0 - 1)) = 0) →
      (((kb ((0 : Int32) ≤ a2 ∧ a2 ≤ (2 : Int32))) = 0 →
        Q (0 : Int32) h
      ) ∧ (¬ ((kb ((0 : Int32) ≤ a2 ∧ a2 ≤ (2 : Int32))) = 0) →
        Q (1 : Int32) h
      ))
    ))) : Wp G d m_X8_isKnot (kEo G d m_X8_isKnot Q) 0 [.ref 88, .int a1, .int a2] [] h := by
  refine wp_aload_n 1 dX8_isKnot_0 rfl rfl ?_
  refine wp_iload_n 2 dX8_isKnot_1 rfl rfl ?_
  refine wp_cV (d - 1) 1 [.int a1] [] 5 dX8_isKnot_2 rfl (lk_X8_54 rfl) (by omega) kd_88 rfl rfl rfl (Nat.le_of_ble_eq_true rfl) (sp_X8_isShip (by omega)  ?_)
  refine wp_if_eq 21 8 dX8_isKnot_5 rfl rfl ⟨fun c2 => ?_, fun c2 => ?_⟩
  · replace H := H.1 c2
    refine wp_iconst (0 : Int32) 22 dX8_isKnot_21 kiconst_0 rfl ?_
    exact wp_retz dX8_isKnot_22 rfl (Or.inl rfl) H
  · replace H := H.2 c2
    refine wp_iload_n 9 dX8_isKnot_8 rfl rfl ?_
    refine wp_iconst (0 : Int32) 10 dX8_isKnot_9 kiconst_0 rfl ?_
    refine wp_iconst (2 : Int32) 11 dX8_isKnot_10 kiconst_2 rfl ?_
    refine wp_cS (d - 1) 3 [.int a2, .int (0 : Int32), .int (2 : Int32)] [] 14 dX8_isKnot_11 rfl (lk_X8_50 rfl) (by omega) rfl rfl (Nat.le_of_ble_eq_true rfl) (sp_X8_in (by omega)  ?_)
    refine wp_if_eq 21 17 dX8_isKnot_14 rfl rfl ⟨fun c1 => ?_, fun c1 => ?_⟩
    · replace H := H.1 c1
      refine wp_iconst (0 : Int32) 22 dX8_isKnot_21 kiconst_0 rfl ?_
      exact wp_retz dX8_isKnot_22 rfl (Or.inl rfl) H
    · replace H := H.2 c1
      refine wp_iconst (1 : Int32) 18 dX8_isKnot_17 kiconst_1 rfl ?_
      refine wp_goto 22 dX8_isKnot_18 rfl ?_
      exact wp_retz dX8_isKnot_22 rfl (Or.inr rfl) H

theorem cg_X8_isKnot {G : kG} {d : Nat} {Q : Int32 → kM → Prop}  {a1 : Int32} {a2 : Int32} {h : kM} (hd : 3 ≤ d)  (H :
    (((kb (0 ≤ a1 ∧ a1 ≤ h 89 0 - 1)) = 0 →
      Q (0 : Int32) h
    ) ∧ (¬ ((kb (0 ≤ a1 ∧ a1 ≤ h 89 0 - 1)) = 0) →
      (((kb ((0 : Int32) ≤ a2 ∧ a2 ≤ (2 : Int32))) = 0 →
        Q (0 : Int32) h
      ) ∧ (¬ ((kb ((0 : Int32) ≤ a2 ∧ a2 ≤ (2 : Int32))) = 0) →
        Q (1 : Int32) h
      ))
    ))) : Cal G d m_X8_isKnot [.ref 88, .int a1, .int a2] h Q :=
  Cal.of [.ref 88, .int a1, .int a2] (by decide +kernel) (Nat.le_of_ble_eq_true rfl) rfl (sg_X8_isKnot_0 hd  H)

theorem sg_X8_brings_0 {G : kG} {d : Nat} {Q : Int32 → kM → Prop}  {a1 : Int32} {a2 : Int32} {h : kM} (hd : 2 ≤ d)  (H :
    (okO a1 (0 : Int32)) ∧
    ∀ h2 : kM, h2 = mLay h a1 (0 : Int32) a2 →
    (okO a1 (1 : Int32)) ∧
    ((¬ a2 = (mOf (h2 89) a1 (1 : Int32)) →
      (okO a1 (2 : Int32)) ∧
      ∀ h5 : kM, h5 = mLay h2 a1 (2 : Int32) (0 : Int32) →
      Q 0 h5
    ) ∧ (a2 = (mOf (h2 89) a1 (1 : Int32)) →
      (okO a1 (2 : Int32)) ∧
      ∀ h7 : kM, h7 = mLay h2 a1 (2 : Int32) (2 : Int32) →
      Q 0 h7
    ))) : Wp G d m_X8_brings (kEo G d m_X8_brings Q) 0 [.ref 88, .int a1, .int a2] [] h := by
  refine wp_aload_n 1 dX8_brings_0 rfl rfl ?_
  refine wp_iload_n 2 dX8_brings_1 rfl rfl ?_
  refine wp_iconst (0 : Int32) 3 dX8_brings_2 kiconst_0 rfl ?_
  refine wp_iload_n 4 dX8_brings_3 rfl rfl ?_
  have c1 := H.1; replace H := H.2
  refine wp_cV (d - 1) 3 [.int a1, .int (0 : Int32), .int a2] [] 7 dX8_brings_4 rfl (lk_X8_142 rfl) (by omega) kd_88 rfl rfl rfl (Nat.le_of_ble_eq_true rfl) (sp_X8_lays1 (by omega) c1 (fun h2 eh2 => ?_))
  replace H := H h2 eh2
  refine wp_aload_n 8 dX8_brings_7 rfl rfl ?_
  refine wp_iload_n 9 dX8_brings_8 rfl rfl ?_
  refine wp_iconst (2 : Int32) 10 dX8_brings_9 kiconst_2 rfl ?_
  refine wp_iload_n 11 dX8_brings_10 rfl rfl ?_
  refine wp_aload_n 12 dX8_brings_11 rfl rfl ?_
  refine wp_iload_n 13 dX8_brings_12 rfl rfl ?_
  refine wp_iconst (1 : Int32) 14 dX8_brings_13 kiconst_1 rfl ?_
  have c3 := H.1; replace H := H.2
  refine wp_cV (d - 1) 2 [.int a1, .int (1 : Int32)] [.int a2, .int (2 : Int32), .int a1, .ref 88] 17 dX8_brings_14 rfl (lk_X8_146 rfl) (by omega) kd_88 rfl rfl rfl (Nat.le_of_ble_eq_true rfl) (sp_X8_of (by omega) c3 ?_)
  refine wp_icmp_ne 24 20 dX8_brings_17 rfl rfl ⟨fun c8 => ?_, fun c8 => ?_⟩
  · replace H := H.1 c8
    refine wp_iconst (0 : Int32) 25 dX8_brings_24 kiconst_0 rfl ?_
    have c4 := H.1; replace H := H.2
    refine wp_cV (d - 1) 3 [.int a1, .int (2 : Int32), .int (0 : Int32)] [] 28 dX8_brings_25 rfl (lk_X8_142 rfl) (by omega) kd_88 rfl rfl rfl (Nat.le_of_ble_eq_true rfl) (sp_X8_lays1 (by omega) c4 (fun h5 eh5 => ?_))
    replace H := H h5 eh5
    exact wp_retv dX8_brings_28 rfl H
  · replace H := H.2 c8
    refine wp_iconst (2 : Int32) 21 dX8_brings_20 kiconst_2 rfl ?_
    refine wp_goto 25 dX8_brings_21 rfl ?_
    have c6 := H.1; replace H := H.2
    refine wp_cV (d - 1) 3 [.int a1, .int (2 : Int32), .int (2 : Int32)] [] 28 dX8_brings_25 rfl (lk_X8_142 rfl) (by omega) kd_88 rfl rfl rfl (Nat.le_of_ble_eq_true rfl) (sp_X8_lays1 (by omega) c6 (fun h7 eh7 => ?_))
    replace H := H h7 eh7
    exact wp_retv dX8_brings_28 rfl H

theorem cg_X8_brings {G : kG} {d : Nat} {Q : Int32 → kM → Prop}  {a1 : Int32} {a2 : Int32} {h : kM} (hd : 2 ≤ d)  (H :
    (okO a1 (0 : Int32)) ∧
    ∀ h2 : kM, h2 = mLay h a1 (0 : Int32) a2 →
    (okO a1 (1 : Int32)) ∧
    ((¬ a2 = (mOf (h2 89) a1 (1 : Int32)) →
      (okO a1 (2 : Int32)) ∧
      ∀ h5 : kM, h5 = mLay h2 a1 (2 : Int32) (0 : Int32) →
      Q 0 h5
    ) ∧ (a2 = (mOf (h2 89) a1 (1 : Int32)) →
      (okO a1 (2 : Int32)) ∧
      ∀ h7 : kM, h7 = mLay h2 a1 (2 : Int32) (2 : Int32) →
      Q 0 h7
    ))) : Cal G d m_X8_brings [.ref 88, .int a1, .int a2] h Q :=
  Cal.of [.ref 88, .int a1, .int a2] (by decide +kernel) (Nat.le_of_ble_eq_true rfl) rfl (sg_X8_brings_0 hd  H)

theorem sg_X8_mayLoose_0 {G : kG} {d : Nat} {Q : Int32 → kM → Prop}  {a1 : Int32} {h : kM} (hd : 3 ≤ d)  (H :
    (okI a1 3) ∧
    (((kb (mIt (h 89) a1 3 = -1)) = 0 →
      Q (0 : Int32) h
    ) ∧ (¬ ((kb (mIt (h 89) a1 3 = -1)) = 0) →
      (((kb (kDay (h 89 1))) = 0 →
        Q (0 : Int32) h
      ) ∧ (¬ ((kb (kDay (h 89 1))) = 0) →
        (okO (a1 / (3 : Int32)) (2 : Int32)) ∧
        (((mOf (h 89) (a1 / (3 : Int32)) (2 : Int32)) = (1 : Int32) →
          Q (0 : Int32) h
        ) ∧ (¬ ((mOf (h 89) (a1 / (3 : Int32)) (2 : Int32)) = (1 : Int32)) →
          Q (1 : Int32) h
        ))
      ))
    ))) : Wp G d m_X8_mayLoose (kEo G d m_X8_mayLoose Q) 0 [.ref 88, .int a1] [] h := by
  refine wp_aload_n 1 dX8_mayLoose_0 rfl rfl ?_
  refine wp_iload_n 2 dX8_mayLoose_1 rfl rfl ?_
  have c1 := H.1; replace H := H.2
  refine wp_cV (d - 1) 1 [.int a1] [] 5 dX8_mayLoose_2 rfl (lk_X8_124 rfl) (by omega) kd_88 rfl rfl rfl (Nat.le_of_ble_eq_true rfl) (sp_X8_isTied (by omega) c1 ?_)
  refine wp_if_eq 31 8 dX8_mayLoose_5 rfl rfl ⟨fun c5 => ?_, fun c5 => ?_⟩
  · replace H := H.1 c5
    refine wp_iconst (0 : Int32) 32 dX8_mayLoose_31 kiconst_0 rfl ?_
    exact wp_retz dX8_mayLoose_32 rfl (Or.inl rfl) H
  · replace H := H.2 c5
    refine wp_aload_n 9 dX8_mayLoose_8 rfl rfl ?_
    refine wp_cV (d - 1) 0 [] [] 12 dX8_mayLoose_9 rfl (lk_X8_171 rfl) (by omega) kd_88 rfl rfl rfl (Nat.le_of_ble_eq_true rfl) (sp_X8_isDay (by omega)  ?_)
    refine wp_if_eq 31 15 dX8_mayLoose_12 rfl rfl ⟨fun c4 => ?_, fun c4 => ?_⟩
    · replace H := H.1 c4
      refine wp_iconst (0 : Int32) 32 dX8_mayLoose_31 kiconst_0 rfl ?_
      exact wp_retz dX8_mayLoose_32 rfl (Or.inl rfl) H
    · replace H := H.2 c4
      refine wp_aload_n 16 dX8_mayLoose_15 rfl rfl ?_
      refine wp_iload_n 17 dX8_mayLoose_16 rfl rfl ?_
      refine wp_iconst (3 : Int32) 18 dX8_mayLoose_17 kiconst_3 rfl ?_
      refine wp_idiv 19 dX8_mayLoose_18 (by decide) rfl ?_
      refine wp_iconst (2 : Int32) 20 dX8_mayLoose_19 kiconst_2 rfl ?_
      have c2 := H.1; replace H := H.2
      refine wp_cV (d - 1) 2 [.int (a1 / (3 : Int32)), .int (2 : Int32)] [] 23 dX8_mayLoose_20 rfl (lk_X8_146 rfl) (by omega) kd_88 rfl rfl rfl (Nat.le_of_ble_eq_true rfl) (sp_X8_of (by omega) c2 ?_)
      refine wp_iconst (1 : Int32) 24 dX8_mayLoose_23 kiconst_1 rfl ?_
      refine wp_icmp_eq 31 27 dX8_mayLoose_24 rfl rfl ⟨fun c3 => ?_, fun c3 => ?_⟩
      · replace H := H.1 c3
        refine wp_iconst (0 : Int32) 32 dX8_mayLoose_31 kiconst_0 rfl ?_
        exact wp_retz dX8_mayLoose_32 rfl (Or.inl rfl) H
      · replace H := H.2 c3
        refine wp_iconst (1 : Int32) 28 dX8_mayLoose_27 kiconst_1 rfl ?_
        refine wp_goto 32 dX8_mayLoose_28 rfl ?_
        exact wp_retz dX8_mayLoose_32 rfl (Or.inr rfl) H

theorem cg_X8_mayLoose {G : kG} {d : Nat} {Q : Int32 → kM → Prop}  {a1 : Int32} {h : kM} (hd : 3 ≤ d)  (H :
    (okI a1 3) ∧
    (((kb (mIt (h 89) a1 3 = -1)) = 0 →
      Q (0 : Int32) h
    ) ∧ (¬ ((kb (mIt (h 89) a1 3 = -1)) = 0) →
      (((kb (kDay (h 89 1))) = 0 →
        Q (0 : Int32) h
      ) ∧ (¬ ((kb (kDay (h 89 1))) = 0) →
        (okO (a1 / (3 : Int32)) (2 : Int32)) ∧
        (((mOf (h 89) (a1 / (3 : Int32)) (2 : Int32)) = (1 : Int32) →
          Q (0 : Int32) h
        ) ∧ (¬ ((mOf (h 89) (a1 / (3 : Int32)) (2 : Int32)) = (1 : Int32)) →
          Q (1 : Int32) h
        ))
      ))
    ))) : Cal G d m_X8_mayLoose [.ref 88, .int a1] h Q :=
  Cal.of [.ref 88, .int a1] (by decide +kernel) (Nat.le_of_ble_eq_true rfl) rfl (sg_X8_mayLoose_0 hd  H)

theorem sg_X8_lacks_0 {G : kG} {d : Nat} {Q : Int32 → kM → Prop}  {a1 : Int32} {h : kM} (hd : 3 ≤ d)  (H :
    ((¬ (kb (0 ≤ a1 ∧ a1 ≤ 3)) = 0 →
      (vp_in a1 4) ∧
      ((¬ (h 98 (a1).toNatClampNeg) = 0 →
        Q (0 : Int32) h
      ) ∧ ((h 98 (a1).toNatClampNeg) = 0 →
        Q (2 : Int32) h
      ))
    ) ∧ ((kb (0 ≤ a1 ∧ a1 ≤ 3)) = 0 →
      Q (1 : Int32) h
    ))) : Wp G d m_X8_lacks (kEo G d m_X8_lacks Q) 0 [.ref 88, .int a1] [] h := by
  refine wp_iload_n 1 dX8_lacks_0 rfl rfl ?_
  refine wp_cS (d - 1) 1 [.int a1] [] 4 dX8_lacks_1 rfl (lk_X8_230 rfl) (by omega) rfl rfl (Nat.le_of_ble_eq_true rfl) (sp_X8_isSheet (by omega)  ?_)
  refine wp_if_ne 11 7 dX8_lacks_4 rfl rfl ⟨fun c3 => ?_, fun c3 => ?_⟩
  · replace H := H.1 c3
    refine wp_aload_n 12 dX8_lacks_11 rfl rfl ?_
    refine wp_getR 10 98 15 dX8_lacks_12 rfl fl_X8_37 kd_88 rfl rfl rfl rfl ?_
    refine wp_iload_n 16 dX8_lacks_15 rfl rfl ?_
    have c1 := H.1; replace H := H.2
    refine wp_iald 17 dX8_lacks_16 rfl kd_98 c1 ?_
    refine wp_if_ne 24 20 dX8_lacks_17 rfl rfl ⟨fun c2 => ?_, fun c2 => ?_⟩
    · replace H := H.1 c2
      refine wp_iconst (0 : Int32) 25 dX8_lacks_24 kiconst_0 rfl ?_
      exact wp_reti dX8_lacks_25 rfl H
    · replace H := H.2 c2
      refine wp_iconst (2 : Int32) 21 dX8_lacks_20 kiconst_2 rfl ?_
      refine wp_goto 25 dX8_lacks_21 rfl ?_
      exact wp_reti dX8_lacks_25 rfl H
  · replace H := H.2 c3
    refine wp_iconst (1 : Int32) 8 dX8_lacks_7 kiconst_1 rfl ?_
    refine wp_goto 25 dX8_lacks_8 rfl ?_
    exact wp_reti dX8_lacks_25 rfl H

theorem cg_X8_lacks {G : kG} {d : Nat} {Q : Int32 → kM → Prop}  {a1 : Int32} {h : kM} (hd : 3 ≤ d)  (H :
    ((¬ (kb (0 ≤ a1 ∧ a1 ≤ 3)) = 0 →
      (vp_in a1 4) ∧
      ((¬ (h 98 (a1).toNatClampNeg) = 0 →
        Q (0 : Int32) h
      ) ∧ ((h 98 (a1).toNatClampNeg) = 0 →
        Q (2 : Int32) h
      ))
    ) ∧ ((kb (0 ≤ a1 ∧ a1 ≤ 3)) = 0 →
      Q (1 : Int32) h
    ))) : Cal G d m_X8_lacks [.ref 88, .int a1] h Q :=
  Cal.of [.ref 88, .int a1] (by decide +kernel) (Nat.le_of_ble_eq_true rfl) rfl (sg_X8_lacks_0 hd  H)

theorem sp_X8_isKnot (hd : 3 ≤ d) {p c : Int32} (k : Q (kb ((0 ≤ p ∧ p ≤ h 89 0 - 1) ∧ (0 ≤ c ∧ c ≤ 2))) h) : Cal G d m_X8_isKnot [.ref 88, .int p, .int c] h Q :=
  cg_X8_isKnot hd ⟨fun c => kq0 k (fun q => kb_0.mp c q.1), fun c => ⟨fun c2 => kq0 k (fun q => kb_0.mp c2 q.2), fun c2 => kq1 k ⟨kb_n0.mp c, kb_n0.mp c2⟩⟩⟩
def mBring (h : kM) (p c : Int32) : kM := mLay (mLay h p 0 c) p 2 (if c = mOf (mLay h p 0 c 89) p 1 then 2 else 0)
theorem sp_X8_brings (hd : 2 ≤ d) {p c : Int32} (ho : okO p 0 ∧ okO p 1 ∧ okO p 2) (k : ∀ h1, h1 = mBring h p c → Q 0 h1) : Cal G d m_X8_brings [.ref 88, .int p, .int c] h Q := by
  unfold mBring at k
  refine cg_X8_brings hd ⟨ho.1, fun h1 e1 => ⟨ho.2.1, fun e => ⟨ho.2.2, fun h2 e2 => k h2 ?_⟩, fun e => ⟨ho.2.2, fun h2 e2 => k h2 ?_⟩⟩⟩
  · rw [e1] at e
    rw [if_neg e, e2, e1]
  · rw [e1] at e
    rw [if_pos e, e2, e1]
theorem sp_X8_mayLoose (hd : 3 ≤ d) {a : Int32} (ho : okI a 3 ∧ okO (a / 3) 2) (k : Q (kb (mIt (h 89) a 3 = -1 ∧ kDay (h 89 1) ∧ ¬ mOf (h 89) (a / 3) 2 = 1)) h) : Cal G d m_X8_mayLoose [.ref 88, .int a] h Q :=
  cg_X8_mayLoose hd ⟨ho.1, fun c => kq0 k (fun q => kb_0.mp c q.1), fun c => ⟨fun c2 => kq0 k (fun q => kb_0.mp c2 q.2.1), fun c2 => ⟨ho.2, fun c3 => kq0 k (fun q => q.2.2 c3), fun c3 => kq1 k ⟨kb_n0.mp c, kb_n0.mp c2, c3⟩⟩⟩⟩
def mLacks (b : Nat → Int32) (k : Int32) : Int32 := if 0 ≤ k ∧ k ≤ 3 then (if b k.toNatClampNeg = 0 then 2 else 0) else 1
theorem in_of {x : Int32} {n : Nat} (m : Int32) (hm : m.toInt < n) (h0 : 0 ≤ x) (h1 : x ≤ m) : vp_in x n := by
  rw [vp_in_iff]
  rw [Int32.le_iff_toInt_le] at h0 h1
  have : (0 : Int32).toInt = 0 := rfl
  omega
theorem sp_X8_lacks (hd : 3 ≤ d) {c : Int32} (k : Q (mLacks (h 98) c) h) : Cal G d m_X8_lacks [.ref 88, .int c] h Q := by
  unfold mLacks at k
  refine cg_X8_lacks hd ⟨fun e => ?_, fun e => by rw [if_neg (kb_0.mp e)] at k; exact k⟩
  have e2 := kb_n0.mp e
  rw [if_pos e2] at k
  exact ⟨in_of 3 (by decide) e2.1 e2.2, fun e3 => by rw [if_neg e3] at k; exact k, fun e3 => by rw [if_pos e3] at k; exact k⟩
end MLeaves

