/-! a text's bytes, read: one reading for class and model -/
def kLvl (c : Int32) : Int32 := if c = 124 then 0 else if c = 38 then 1 else if c = 60 ∨ c = 61 ∨ c = 62 then 2 else if c = 43 ∨ c = 45 then 3 else if c = 42 ∨ c = 47 ∨ c = 37 then 4 else 5
abbrev okN (h : kM) : Prop := h 35 3 < h 35 2 → vp_in (h 35 3) 60
section Read
variable {G : kG} {d : Nat} {Q : Int32 → kM → Prop} {h : kM}
theorem sg_X6_add_0 {G : kG} {d : Nat} {Q : Int32 → kM → Prop} {t : Nat} {a1 : Int32} {h : kM} (hd : 1 ≤ d) (k_t : kTxt t) (H :
    (((60 : Int32) ≤ (h t 2) →
      Q 0 h
    ) ∧ (¬ ((60 : Int32) ≤ (h t 2)) →
      (vp_in (h t 2) 60) ∧
      ∀ h3 : kM, h3 = kU h (t + 1) ((h t 2)).toNatClampNeg a1 →
      ∀ h4 : kM, h4 = kU h3 t 2 ((h3 t 2) + (1 : Int32)) →
      Q 0 h4
    ))) : Wp G d m_X6_add (kEo G d m_X6_add Q) 0 [.ref t, .int a1] [] h := by
  refine wp_aload_n 1 dX6_add_0 rfl rfl ?_
  refine wp_getI 4 dX6_add_1 rfl fl_X6_18 (kTxt_0 k_t) rfl ?_
  refine wp_bipush (60 : Int32) 6 dX6_add_4 kbipush_60 rfl ?_
  refine wp_icmp_ge 29 9 dX6_add_6 rfl rfl ⟨fun c1 => ?_, fun c1 => ?_⟩
  · replace H := H.1 c1
    exact wp_retv dX6_add_29 rfl H
  · replace H := H.2 c1
    refine wp_aload_n 10 dX6_add_9 rfl rfl ?_
    refine wp_getR 1 (t + 1) 13 dX6_add_10 rfl fl_X6_9 (kTxt_0 k_t) rfl rfl rfl rfl ?_
    refine wp_aload_n 14 dX6_add_13 rfl rfl ?_
    refine wp_getI 17 dX6_add_14 rfl fl_X6_18 (kTxt_0 k_t) rfl ?_
    refine wp_iload_n 18 dX6_add_17 rfl rfl ?_
    have c2 := H.1; replace H := H.2
    refine wp_iast 19 dX6_add_18 rfl (kTxt_1 k_t) c2 ?_
    refine wp_nm (fun h3 eh3 => ?_)
    replace H := H h3 eh3
    refine wp_aload_n 20 dX6_add_19 rfl rfl ?_
    refine wp_dup 21 dX6_add_20 rfl rfl ?_
    refine wp_getI 24 dX6_add_21 rfl fl_X6_18 (kTxt_0 k_t) rfl ?_
    refine wp_iconst (1 : Int32) 25 dX6_add_24 kiconst_1 rfl ?_
    refine wp_iadd 26 dX6_add_25 rfl ?_
    refine wp_putI 29 dX6_add_26 rfl fl_X6_18 fin_6_2 (kTxt_0 k_t) rfl ?_
    refine wp_nm (fun h4 eh4 => ?_)
    replace H := H h4 eh4
    exact wp_retv dX6_add_29 rfl H

theorem cg_X6_add {G : kG} {d : Nat} {Q : Int32 → kM → Prop} {t : Nat} {a1 : Int32} {h : kM} (hd : 1 ≤ d) (k_t : kTxt t) (H :
    (((60 : Int32) ≤ (h t 2) →
      Q 0 h
    ) ∧ (¬ ((60 : Int32) ≤ (h t 2)) →
      (vp_in (h t 2) 60) ∧
      ∀ h3 : kM, h3 = kU h (t + 1) ((h t 2)).toNatClampNeg a1 →
      ∀ h4 : kM, h4 = kU h3 t 2 ((h3 t 2) + (1 : Int32)) →
      Q 0 h4
    ))) : Cal G d m_X6_add [.ref t, .int a1] h Q :=
  Cal.of [.ref t, .int a1] (by decide +kernel) (Nat.le_of_ble_eq_true rfl) rfl (sg_X6_add_0 hd k_t H)

theorem sg_X1_levelOf_0 {G : kG} {d : Nat} {Q : Int32 → kM → Prop}  {a1 : Int32} {h : kM} (hd : 1 ≤ d)  (H :
    ((a1 = (37 : Int32) →
      Q (4 : Int32) h
    ) ∧ (¬ a1 = (37 : Int32) →
    ((a1 = (38 : Int32) →
      Q (1 : Int32) h
    ) ∧ (¬ a1 = (38 : Int32) →
    ((a1 = (42 : Int32) →
      Q (4 : Int32) h
    ) ∧ (¬ a1 = (42 : Int32) →
    ((a1 = (43 : Int32) →
      Q (3 : Int32) h
    ) ∧ (¬ a1 = (43 : Int32) →
    ((a1 = (45 : Int32) →
      Q (3 : Int32) h
    ) ∧ (¬ a1 = (45 : Int32) →
    ((a1 = (47 : Int32) →
      Q (4 : Int32) h
    ) ∧ (¬ a1 = (47 : Int32) →
    ((a1 = (60 : Int32) →
      Q (2 : Int32) h
    ) ∧ (¬ a1 = (60 : Int32) →
    ((a1 = (61 : Int32) →
      Q (2 : Int32) h
    ) ∧ (¬ a1 = (61 : Int32) →
    ((a1 = (62 : Int32) →
      Q (2 : Int32) h
    ) ∧ (¬ a1 = (62 : Int32) →
    ((a1 = (124 : Int32) →
      Q (0 : Int32) h
    ) ∧ (¬ a1 = (124 : Int32) →
      Q (5 : Int32) h
    ))))))))))))))))))))) : Wp G d m_X1_levelOf (kEo G d m_X1_levelOf Q) 0 [.int a1] [] h := by
  refine wp_iload_n 1 dX1_levelOf_0 rfl rfl ?_
  refine wp_lookup 102 [((37 : Int32), 100), ((38 : Int32), 94), ((42 : Int32), 100), ((43 : Int32), 98), ((45 : Int32), 98), ((47 : Int32), 100), ((60 : Int32), 96), ((61 : Int32), 96), ((62 : Int32), 96), ((124 : Int32), 92)] dX1_levelOf_1 (by decide) rfl (by decide) ?_
  refine ⟨fun c1 => ?_, fun c1 => ?_⟩
  · replace H := H.1 c1
    refine wp_iconst (4 : Int32) 101 dX1_levelOf_100 kiconst_4 rfl ?_
    exact wp_reti dX1_levelOf_101 rfl H
  · replace H := H.2 c1
    refine ⟨fun c2 => ?_, fun c2 => ?_⟩
    · replace H := H.1 c2
      refine wp_iconst (1 : Int32) 95 dX1_levelOf_94 kiconst_1 rfl ?_
      exact wp_reti dX1_levelOf_95 rfl H
    · replace H := H.2 c2
      refine ⟨fun c3 => ?_, fun c3 => ?_⟩
      · replace H := H.1 c3
        refine wp_iconst (4 : Int32) 101 dX1_levelOf_100 kiconst_4 rfl ?_
        exact wp_reti dX1_levelOf_101 rfl H
      · replace H := H.2 c3
        refine ⟨fun c4 => ?_, fun c4 => ?_⟩
        · replace H := H.1 c4
          refine wp_iconst (3 : Int32) 99 dX1_levelOf_98 kiconst_3 rfl ?_
          exact wp_reti dX1_levelOf_99 rfl H
        · replace H := H.2 c4
          refine ⟨fun c5 => ?_, fun c5 => ?_⟩
          · replace H := H.1 c5
            refine wp_iconst (3 : Int32) 99 dX1_levelOf_98 kiconst_3 rfl ?_
            exact wp_reti dX1_levelOf_99 rfl H
          · replace H := H.2 c5
            refine ⟨fun c6 => ?_, fun c6 => ?_⟩
            · replace H := H.1 c6
              refine wp_iconst (4 : Int32) 101 dX1_levelOf_100 kiconst_4 rfl ?_
              exact wp_reti dX1_levelOf_101 rfl H
            · replace H := H.2 c6
              refine ⟨fun c7 => ?_, fun c7 => ?_⟩
              · replace H := H.1 c7
                refine wp_iconst (2 : Int32) 97 dX1_levelOf_96 kiconst_2 rfl ?_
                exact wp_reti dX1_levelOf_97 rfl H
              · replace H := H.2 c7
                refine ⟨fun c8 => ?_, fun c8 => ?_⟩
                · replace H := H.1 c8
                  refine wp_iconst (2 : Int32) 97 dX1_levelOf_96 kiconst_2 rfl ?_
                  exact wp_reti dX1_levelOf_97 rfl H
                · replace H := H.2 c8
                  refine ⟨fun c9 => ?_, fun c9 => ?_⟩
                  · replace H := H.1 c9
                    refine wp_iconst (2 : Int32) 97 dX1_levelOf_96 kiconst_2 rfl ?_
                    exact wp_reti dX1_levelOf_97 rfl H
                  · replace H := H.2 c9
                    refine ⟨fun c10 => ?_, fun c10 => ?_⟩
                    · replace H := H.1 c10
                      refine wp_iconst (0 : Int32) 93 dX1_levelOf_92 kiconst_0 rfl ?_
                      exact wp_reti dX1_levelOf_93 rfl H
                    · replace H := H.2 c10
                      show Wp _ _ _ _ _ _ _ _
                      refine wp_iconst (5 : Int32) 103 dX1_levelOf_102 kiconst_5 rfl ?_
                      exact wp_reti dX1_levelOf_103 rfl H

theorem cg_X1_levelOf {G : kG} {d : Nat} {Q : Int32 → kM → Prop}  {a1 : Int32} {h : kM} (hd : 1 ≤ d)  (H :
    ((a1 = (37 : Int32) →
      Q (4 : Int32) h
    ) ∧ (¬ a1 = (37 : Int32) →
    ((a1 = (38 : Int32) →
      Q (1 : Int32) h
    ) ∧ (¬ a1 = (38 : Int32) →
    ((a1 = (42 : Int32) →
      Q (4 : Int32) h
    ) ∧ (¬ a1 = (42 : Int32) →
    ((a1 = (43 : Int32) →
      Q (3 : Int32) h
    ) ∧ (¬ a1 = (43 : Int32) →
    ((a1 = (45 : Int32) →
      Q (3 : Int32) h
    ) ∧ (¬ a1 = (45 : Int32) →
    ((a1 = (47 : Int32) →
      Q (4 : Int32) h
    ) ∧ (¬ a1 = (47 : Int32) →
    ((a1 = (60 : Int32) →
      Q (2 : Int32) h
    ) ∧ (¬ a1 = (60 : Int32) →
    ((a1 = (61 : Int32) →
      Q (2 : Int32) h
    ) ∧ (¬ a1 = (61 : Int32) →
    ((a1 = (62 : Int32) →
      Q (2 : Int32) h
    ) ∧ (¬ a1 = (62 : Int32) →
    ((a1 = (124 : Int32) →
      Q (0 : Int32) h
    ) ∧ (¬ a1 = (124 : Int32) →
      Q (5 : Int32) h
    ))))))))))))))))))))) : Cal G d m_X1_levelOf [.int a1] h Q :=
  Cal.of [.int a1] (by decide +kernel) (Nat.le_of_ble_eq_true rfl) rfl (sg_X1_levelOf_0 hd  H)

theorem sp_X1_levelOf (hd : 1 ≤ d) {c : Int32} (k : Q (kLvl c) h) : Cal G d m_X1_levelOf [.int c] h Q := by
  unfold kLvl at k
  refine cg_X1_levelOf hd ⟨fun e => by subst e; exact k, fun n1 => ⟨fun e => by subst e; exact k, fun n2 => ⟨fun e => by subst e; exact k, fun n3 => ⟨fun e => by subst e; exact k, fun n4 => ⟨fun e => by subst e; exact k, fun n5 => ⟨fun e => by subst e; exact k, fun n6 => ⟨fun e => by subst e; exact k, fun n7 => ⟨fun e => by subst e; exact k, fun n8 => ⟨fun e => by subst e; exact k, fun n9 => ⟨fun e => by subst e; exact k, fun n10 => ?_⟩⟩⟩⟩⟩⟩⟩⟩⟩⟩
  rw [if_neg n10, if_neg n2, if_neg (fun q => q.elim n7 (fun q => q.elim n8 n9)), if_neg (fun q => q.elim n4 n5), if_neg (fun q => q.elim n3 (fun q => q.elim n6 n1))] at k
  exact k
theorem sg_X1_readName_0 {G : kG} {d : Nat} {Q : Int32 → kM → Prop}  {a1 : Int32} {h : kM} (hd : 7 ≤ d)  (H :
    ((¬ a1 = (-1 : Int32) →
      (h 35 5 = 0 ∨ h 35 5 = 1) ∧
      ((0 ≤ (kIx (h 35 5) (((a1).toUInt32 % 65536).toInt32)) →
        Cal G (d - 1) m_X6_add [.ref 36, .int ((10000 : Int32) + (kIx (h 35 5) (((a1).toUInt32 % 65536).toInt32)))] h (fun x4 h5 =>
          ∀ h6 : kM, h6 = kU h5 35 3 ((h5 35 3) + (1 : Int32)) →
          Q 0 h6
        )
      ) ∧ (¬ (0 ≤ (kIx (h 35 5) (((a1).toUInt32 % 65536).toInt32))) →
        ∀ h7 : kM, h7 = kU h 35 4 (1 : Int32) →
        Q 0 h7
      ))
    ) ∧ (a1 = (-1 : Int32) →
      ∀ h8 : kM, h8 = kU h 35 4 (1 : Int32) →
      Q 0 h8
    ))) : Wp G d m_X1_readName (kEo G d m_X1_readName Q) 0 [.ref 35, .int a1, .null] [] h := by
  refine wp_iload_n 1 dX1_readName_0 rfl rfl ?_
  refine wp_iconst (-1 : Int32) 2 dX1_readName_1 kiconst_m1 rfl ?_
  refine wp_icmp_ne 9 5 dX1_readName_2 rfl rfl ⟨fun c1 => ?_, fun c1 => ?_⟩
  · replace H := H.1 c1
    refine wp_aload_n 10 dX1_readName_9 rfl rfl ?_
    refine wp_getS 13 dX1_readName_10 rfl fl_X1_24 kd_35 rfl ?_
    refine wp_iload_n 14 dX1_readName_13 rfl rfl ?_
    refine wp_i2c 15 dX1_readName_14 rfl ?_
    have c2 := H.1; replace H := H.2
    refine wp_ix 18 dX1_readName_15 rfl (ix_X1_88 rfl) (by omega) (Nat.le_of_ble_eq_true rfl) c2 ?_
    refine wp_istore_n 19 dX1_readName_18 rfl (Nat.le_of_ble_eq_true rfl) rfl ?_
    refine wp_iload_n 20 dX1_readName_19 rfl rfl ?_
    refine wp_if_ge 29 23 dX1_readName_20 rfl rfl ⟨fun c3 => ?_, fun c3 => ?_⟩
    · replace H := H.1 c3
      refine wp_aload_n 30 dX1_readName_29 rfl rfl ?_
      refine wp_getR 1 36 33 dX1_readName_30 rfl fl_X1_12 kd_35 rfl rfl rfl rfl ?_
      refine wp_sipush (10000 : Int32) 36 dX1_readName_33 ksipush_10000 rfl ?_
      refine wp_iload_n 37 dX1_readName_36 rfl rfl ?_
      refine wp_iadd 38 dX1_readName_37 rfl ?_
      refine wp_cV (d - 1) 1 [.int ((10000 : Int32) + (kIx (h 35 5) (((a1).toUInt32 % 65536).toInt32)))] [] 41 dX1_readName_38 rfl (lk_X1_72 rfl) (by omega) kd_36 rfl rfl rfl (Nat.le_of_ble_eq_true rfl) (H.mono (fun x4 h5 H => ?_))
      refine wp_aload_n 42 dX1_readName_41 rfl rfl ?_
      refine wp_dup 43 dX1_readName_42 rfl rfl ?_
      refine wp_getI 46 dX1_readName_43 rfl fl_X1_44 kd_35 rfl ?_
      refine wp_iconst (1 : Int32) 47 dX1_readName_46 kiconst_1 rfl ?_
      refine wp_iadd 48 dX1_readName_47 rfl ?_
      refine wp_putI 51 dX1_readName_48 rfl fl_X1_44 fin_1_3 kd_35 rfl ?_
      refine wp_nm (fun h6 eh6 => ?_)
      replace H := H h6 eh6
      exact wp_retv dX1_readName_51 rfl H
    · replace H := H.2 c3
      refine wp_aload_n 24 dX1_readName_23 rfl rfl ?_
      refine wp_iconst (1 : Int32) 25 dX1_readName_24 kiconst_1 rfl ?_
      refine wp_putZ 28 dX1_readName_25 rfl fl_X1_47 fin_1_4 kd_35 rfl (Or.inr rfl) ?_
      refine wp_nm (fun h7 eh7 => ?_)
      replace H := H h7 eh7
      exact wp_retv dX1_readName_28 rfl H
  · replace H := H.2 c1
    refine wp_iconst (-1 : Int32) 6 dX1_readName_5 kiconst_m1 rfl ?_
    refine wp_goto 18 dX1_readName_6 rfl ?_
    refine wp_istore_n 19 dX1_readName_18 rfl (Nat.le_of_ble_eq_true rfl) rfl ?_
    refine wp_iload_n 20 dX1_readName_19 rfl rfl ?_
    refine wp_if_ge 29 23 dX1_readName_20 rfl rfl ⟨fun c => absurd c (by decide), fun c => ?_⟩
    refine wp_aload_n 24 dX1_readName_23 rfl rfl ?_
    refine wp_iconst (1 : Int32) 25 dX1_readName_24 kiconst_1 rfl ?_
    refine wp_putZ 28 dX1_readName_25 rfl fl_X1_47 fin_1_4 kd_35 rfl (Or.inr rfl) ?_
    refine wp_nm (fun h8 eh8 => ?_)
    replace H := H h8 eh8
    exact wp_retv dX1_readName_28 rfl H

theorem cg_X1_readName {G : kG} {d : Nat} {Q : Int32 → kM → Prop}  {a1 : Int32} {h : kM} (hd : 7 ≤ d)  (H :
    ((¬ a1 = (-1 : Int32) →
      (h 35 5 = 0 ∨ h 35 5 = 1) ∧
      ((0 ≤ (kIx (h 35 5) (((a1).toUInt32 % 65536).toInt32)) →
        Cal G (d - 1) m_X6_add [.ref 36, .int ((10000 : Int32) + (kIx (h 35 5) (((a1).toUInt32 % 65536).toInt32)))] h (fun x4 h5 =>
          ∀ h6 : kM, h6 = kU h5 35 3 ((h5 35 3) + (1 : Int32)) →
          Q 0 h6
        )
      ) ∧ (¬ (0 ≤ (kIx (h 35 5) (((a1).toUInt32 % 65536).toInt32))) →
        ∀ h7 : kM, h7 = kU h 35 4 (1 : Int32) →
        Q 0 h7
      ))
    ) ∧ (a1 = (-1 : Int32) →
      ∀ h8 : kM, h8 = kU h 35 4 (1 : Int32) →
      Q 0 h8
    ))) : Cal G d m_X1_readName [.ref 35, .int a1] h Q :=
  Cal.of [.ref 35, .int a1, .null] (by decide +kernel) (Nat.le_of_ble_eq_true rfl) rfl (sg_X1_readName_0 hd  H)

def at_X1_readNumber_4 (G : kG) (d : Nat) (Q : Int32 → kM → Prop)  (v1 : Int32) (v2 : Int32) (h : kM) : Prop := Wp G d m_X1_readNumber (kEo G d m_X1_readNumber Q) 4 [.ref 35, .int v1, .int v2] [] h
theorem sg_X1_readNumber_0 {G : kG} {d : Nat} {Q : Int32 → kM → Prop}   {h : kM} (hd : 2 ≤ d)  (H :
    at_X1_readNumber_4 G d Q (0 : Int32) (0 : Int32) h) : Wp G d m_X1_readNumber (kEo G d m_X1_readNumber Q) 0 [.ref 35, .null, .null] [] h := by
  refine wp_iconst (0 : Int32) 1 dX1_readNumber_0 kiconst_0 rfl ?_
  refine wp_istore_n 2 dX1_readNumber_1 rfl (Nat.le_of_ble_eq_true rfl) rfl ?_
  refine wp_iconst (0 : Int32) 3 dX1_readNumber_2 kiconst_0 rfl ?_
  refine wp_istore_n 4 dX1_readNumber_3 rfl (Nat.le_of_ble_eq_true rfl) rfl ?_
  exact H

theorem cg_X1_readNumber {G : kG} {d : Nat} {Q : Int32 → kM → Prop}   {h : kM} (hd : 2 ≤ d)  (H :
    at_X1_readNumber_4 G d Q (0 : Int32) (0 : Int32) h) : Cal G d m_X1_readNumber [.ref 35] h Q :=
  Cal.of [.ref 35, .null, .null] (by decide +kernel) (Nat.le_of_ble_eq_true rfl) rfl (sg_X1_readNumber_0 hd  H)

theorem sg_X1_readNumber_4 {G : kG} {d : Nat} {Q : Int32 → kM → Prop}  {v1 : Int32} {v2 : Int32} {h : kM} (hd : 2 ≤ d)  (H :
    (((4 : Int32) ≤ v2 →
      Cal G (d - 1) m_X6_add [.ref 36, .int v1] h (fun x2 h3 =>
        Q 0 h3
      )
    ) ∧ (¬ ((4 : Int32) ≤ v2) →
      (okN h) ∧
      (((kb (48 ≤ (kNext h) ∧ (kNext h) ≤ 57)) = 0 →
        Cal G (d - 1) m_X6_add [.ref 36, .int v1] h (fun x6 h7 =>
          Q 0 h7
        )
      ) ∧ (¬ ((kb (48 ≤ (kNext h) ∧ (kNext h) ≤ 57)) = 0) →
        (okN h) ∧
        ∀ h9 : kM, h9 = kU h 35 3 ((h 35 3) + (1 : Int32)) →
        at_X1_readNumber_4 G d Q ((((10 : Int32) * v1) + (kNext h)) - (48 : Int32)) (v2 + (1 : Int32)) h9
      ))
    ))) : at_X1_readNumber_4 G d Q v1 v2 h := by
  show Wp G d m_X1_readNumber (kEo G d m_X1_readNumber Q) 4 [.ref 35, .int v1, .int v2] [] h
  refine wp_iload_n 5 dX1_readNumber_4 rfl rfl ?_
  refine wp_iconst (4 : Int32) 6 dX1_readNumber_5 kiconst_4 rfl ?_
  refine wp_icmp_ge 48 9 dX1_readNumber_6 rfl rfl ⟨fun c1 => ?_, fun c1 => ?_⟩
  · replace H := H.1 c1
    refine wp_aload_n 49 dX1_readNumber_48 rfl rfl ?_
    refine wp_getR 1 36 52 dX1_readNumber_49 rfl fl_X1_12 kd_35 rfl rfl rfl rfl ?_
    refine wp_iload_n 53 dX1_readNumber_52 rfl rfl ?_
    refine wp_cV (d - 1) 1 [.int v1] [] 56 dX1_readNumber_53 rfl (lk_X1_72 rfl) (by omega) kd_36 rfl rfl rfl (Nat.le_of_ble_eq_true rfl) (H.mono (fun x2 h3 H => ?_))
    exact wp_retv dX1_readNumber_56 rfl H
  · replace H := H.2 c1
    refine wp_aload_n 10 dX1_readNumber_9 rfl rfl ?_
    have c4 := H.1; replace H := H.2
    refine wp_cV (d - 1) 0 [] [] 13 dX1_readNumber_10 rfl (lk_X1_64 rfl) (by omega) kd_35 rfl rfl rfl (Nat.le_of_ble_eq_true rfl) (sp_X1_next (by omega) c4 ?_)
    refine wp_cS (d - 1) 1 [.int (kNext h)] [] 16 dX1_readNumber_13 rfl (lk_X1_75 rfl) (by omega) rfl rfl (Nat.le_of_ble_eq_true rfl) (sp_X1_isDigit (by omega)  ?_)
    refine wp_if_eq 48 19 dX1_readNumber_16 rfl rfl ⟨fun c5 => ?_, fun c5 => ?_⟩
    · replace H := H.1 c5
      refine wp_aload_n 49 dX1_readNumber_48 rfl rfl ?_
      refine wp_getR 1 36 52 dX1_readNumber_49 rfl fl_X1_12 kd_35 rfl rfl rfl rfl ?_
      refine wp_iload_n 53 dX1_readNumber_52 rfl rfl ?_
      refine wp_cV (d - 1) 1 [.int v1] [] 56 dX1_readNumber_53 rfl (lk_X1_72 rfl) (by omega) kd_36 rfl rfl rfl (Nat.le_of_ble_eq_true rfl) (H.mono (fun x6 h7 H => ?_))
      exact wp_retv dX1_readNumber_56 rfl H
    · replace H := H.2 c5
      refine wp_bipush (10 : Int32) 21 dX1_readNumber_19 kbipush_10 rfl ?_
      refine wp_iload_n 22 dX1_readNumber_21 rfl rfl ?_
      refine wp_imul 23 dX1_readNumber_22 rfl ?_
      refine wp_aload_n 24 dX1_readNumber_23 rfl rfl ?_
      have c8 := H.1; replace H := H.2
      refine wp_cV (d - 1) 0 [] [.int ((10 : Int32) * v1)] 27 dX1_readNumber_24 rfl (lk_X1_64 rfl) (by omega) kd_35 rfl rfl rfl (Nat.le_of_ble_eq_true rfl) (sp_X1_next (by omega) c8 ?_)
      refine wp_iadd 28 dX1_readNumber_27 rfl ?_
      refine wp_bipush (48 : Int32) 30 dX1_readNumber_28 kbipush_48 rfl ?_
      refine wp_isub 31 dX1_readNumber_30 rfl ?_
      refine wp_istore_n 32 dX1_readNumber_31 rfl (Nat.le_of_ble_eq_true rfl) rfl ?_
      refine wp_aload_n 33 dX1_readNumber_32 rfl rfl ?_
      refine wp_dup 34 dX1_readNumber_33 rfl rfl ?_
      refine wp_getI 37 dX1_readNumber_34 rfl fl_X1_44 kd_35 rfl ?_
      refine wp_iconst (1 : Int32) 38 dX1_readNumber_37 kiconst_1 rfl ?_
      refine wp_iadd 39 dX1_readNumber_38 rfl ?_
      refine wp_putI 42 dX1_readNumber_39 rfl fl_X1_44 fin_1_3 kd_35 rfl ?_
      refine wp_nm (fun h9 eh9 => ?_)
      replace H := H h9 eh9
      refine wp_iinc (1 : Int32) 45 dX1_readNumber_42 rfl rfl kiconst_1 (Nat.le_of_ble_eq_true rfl) rfl ?_
      refine wp_goto 4 dX1_readNumber_45 rfl ?_
      exact H

theorem sg_X1_readOpened_0 {G : kG} {d : Nat} {Q : Int32 → kM → Prop}  {a1 : Int32} {a2 : Int32} {h : kM} (hd : 2 ≤ d)  (H :
    ((¬ a1 = (33 : Int32) →
      Cal G (d - 1) m_X1_readLevel [.ref 35, .int (0 : Int32), .int a2] h (fun x2 h3 =>
        ((¬ (h3 35 4) = 0 →
          ∀ h5 : kM, h5 = kU h3 35 4 (1 : Int32) →
          Q 0 h5
        ) ∧ ((h3 35 4) = 0 →
          (okN h3) ∧
          (((kNext h3) = (41 : Int32) →
            ∀ h8 : kM, h8 = kU h3 35 3 ((h3 35 3) + (1 : Int32)) →
            Q 0 h8
          ) ∧ (¬ ((kNext h3) = (41 : Int32)) →
            ∀ h9 : kM, h9 = kU h3 35 4 (1 : Int32) →
            Q 0 h9
          ))
        ))
      )
    ) ∧ (a1 = (33 : Int32) →
      Cal G (d - 1) m_X1_readOperand [.ref 35, .int a2] h (fun x10 h11 =>
        Cal G (d - 1) m_X6_add [.ref 36, .int (-33 : Int32)] h11 (fun x12 h13 =>
          Q 0 h13
        )
      )
    ))) : Wp G d m_X1_readOpened (kEo G d m_X1_readOpened Q) 0 [.ref 35, .int a1, .int a2] [] h := by
  refine wp_iload_n 1 dX1_readOpened_0 rfl rfl ?_
  refine wp_bipush (33 : Int32) 3 dX1_readOpened_1 kbipush_33 rfl ?_
  refine wp_icmp_ne 21 6 dX1_readOpened_3 rfl rfl ⟨fun c1 => ?_, fun c1 => ?_⟩
  · replace H := H.1 c1
    refine wp_aload_n 22 dX1_readOpened_21 rfl rfl ?_
    refine wp_iconst (0 : Int32) 23 dX1_readOpened_22 kiconst_0 rfl ?_
    refine wp_iload_n 24 dX1_readOpened_23 rfl rfl ?_
    refine wp_cV (d - 1) 2 [.int (0 : Int32), .int a2] [] 27 dX1_readOpened_24 rfl (lk_X1_56 rfl) (by omega) kd_35 rfl rfl rfl (Nat.le_of_ble_eq_true rfl) (H.mono (fun x2 h3 H => ?_))
    refine wp_aload_n 28 dX1_readOpened_27 rfl rfl ?_
    refine wp_getI 31 dX1_readOpened_28 rfl fl_X1_47 kd_35 rfl ?_
    refine wp_if_ne 43 34 dX1_readOpened_31 rfl rfl ⟨fun c4 => ?_, fun c4 => ?_⟩
    · replace H := H.1 c4
      refine wp_aload_n 44 dX1_readOpened_43 rfl rfl ?_
      refine wp_iconst (1 : Int32) 45 dX1_readOpened_44 kiconst_1 rfl ?_
      refine wp_putZ 48 dX1_readOpened_45 rfl fl_X1_47 fin_1_4 kd_35 rfl (Or.inr rfl) ?_
      refine wp_nm (fun h5 eh5 => ?_)
      replace H := H h5 eh5
      exact wp_retv dX1_readOpened_48 rfl H
    · replace H := H.2 c4
      refine wp_aload_n 35 dX1_readOpened_34 rfl rfl ?_
      have c6 := H.1; replace H := H.2
      refine wp_cV (d - 1) 0 [] [] 38 dX1_readOpened_35 rfl (lk_X1_64 rfl) (by omega) kd_35 rfl rfl rfl (Nat.le_of_ble_eq_true rfl) (sp_X1_next (by omega) c6 ?_)
      refine wp_bipush (41 : Int32) 40 dX1_readOpened_38 kbipush_41 rfl ?_
      refine wp_icmp_eq 49 43 dX1_readOpened_40 rfl rfl ⟨fun c7 => ?_, fun c7 => ?_⟩
      · replace H := H.1 c7
        refine wp_aload_n 50 dX1_readOpened_49 rfl rfl ?_
        refine wp_dup 51 dX1_readOpened_50 rfl rfl ?_
        refine wp_getI 54 dX1_readOpened_51 rfl fl_X1_44 kd_35 rfl ?_
        refine wp_iconst (1 : Int32) 55 dX1_readOpened_54 kiconst_1 rfl ?_
        refine wp_iadd 56 dX1_readOpened_55 rfl ?_
        refine wp_putI 59 dX1_readOpened_56 rfl fl_X1_44 fin_1_3 kd_35 rfl ?_
        refine wp_nm (fun h8 eh8 => ?_)
        replace H := H h8 eh8
        exact wp_retv dX1_readOpened_59 rfl H
      · replace H := H.2 c7
        refine wp_aload_n 44 dX1_readOpened_43 rfl rfl ?_
        refine wp_iconst (1 : Int32) 45 dX1_readOpened_44 kiconst_1 rfl ?_
        refine wp_putZ 48 dX1_readOpened_45 rfl fl_X1_47 fin_1_4 kd_35 rfl (Or.inr rfl) ?_
        refine wp_nm (fun h9 eh9 => ?_)
        replace H := H h9 eh9
        exact wp_retv dX1_readOpened_48 rfl H
  · replace H := H.2 c1
    refine wp_aload_n 7 dX1_readOpened_6 rfl rfl ?_
    refine wp_iload_n 8 dX1_readOpened_7 rfl rfl ?_
    refine wp_cV (d - 1) 1 [.int a2] [] 11 dX1_readOpened_8 rfl (lk_X1_60 rfl) (by omega) kd_35 rfl rfl rfl (Nat.le_of_ble_eq_true rfl) (H.mono (fun x10 h11 H => ?_))
    refine wp_aload_n 12 dX1_readOpened_11 rfl rfl ?_
    refine wp_getR 1 36 15 dX1_readOpened_12 rfl fl_X1_12 kd_35 rfl rfl rfl rfl ?_
    refine wp_bipush (-33 : Int32) 17 dX1_readOpened_15 kbipush_m33 rfl ?_
    refine wp_cV (d - 1) 1 [.int (-33 : Int32)] [] 20 dX1_readOpened_17 rfl (lk_X1_72 rfl) (by omega) kd_36 rfl rfl rfl (Nat.le_of_ble_eq_true rfl) (H.mono (fun x12 h13 H => ?_))
    exact wp_retv dX1_readOpened_20 rfl H

theorem cg_X1_readOpened {G : kG} {d : Nat} {Q : Int32 → kM → Prop}  {a1 : Int32} {a2 : Int32} {h : kM} (hd : 2 ≤ d)  (H :
    ((¬ a1 = (33 : Int32) →
      Cal G (d - 1) m_X1_readLevel [.ref 35, .int (0 : Int32), .int a2] h (fun x2 h3 =>
        ((¬ (h3 35 4) = 0 →
          ∀ h5 : kM, h5 = kU h3 35 4 (1 : Int32) →
          Q 0 h5
        ) ∧ ((h3 35 4) = 0 →
          (okN h3) ∧
          (((kNext h3) = (41 : Int32) →
            ∀ h8 : kM, h8 = kU h3 35 3 ((h3 35 3) + (1 : Int32)) →
            Q 0 h8
          ) ∧ (¬ ((kNext h3) = (41 : Int32)) →
            ∀ h9 : kM, h9 = kU h3 35 4 (1 : Int32) →
            Q 0 h9
          ))
        ))
      )
    ) ∧ (a1 = (33 : Int32) →
      Cal G (d - 1) m_X1_readOperand [.ref 35, .int a2] h (fun x10 h11 =>
        Cal G (d - 1) m_X6_add [.ref 36, .int (-33 : Int32)] h11 (fun x12 h13 =>
          Q 0 h13
        )
      )
    ))) : Cal G d m_X1_readOpened [.ref 35, .int a1, .int a2] h Q :=
  Cal.of [.ref 35, .int a1, .int a2] (by decide +kernel) (Nat.le_of_ble_eq_true rfl) rfl (sg_X1_readOpened_0 hd  H)

theorem sg_X1_readOperand_0 {G : kG} {d : Nat} {Q : Int32 → kM → Prop}  {a1 : Int32} {h : kM} (hd : 8 ≤ d)  (H :
    (okN h) ∧
    (((kb (48 ≤ (kNext h) ∧ (kNext h) ≤ 57)) = 0 →
      (((kNext h) = (33 : Int32) →
        (((5 : Int32) ≤ a1 →
          Cal G (d - 1) m_X1_readName [.ref 35, .int (kNext h)] h (fun x5 h6 =>
            Q 0 h6
          )
        ) ∧ (¬ ((5 : Int32) ≤ a1) →
          ∀ h7 : kM, h7 = kU h 35 3 ((h 35 3) + (1 : Int32)) →
          Cal G (d - 1) m_X1_readOpened [.ref 35, .int (kNext h), .int (a1 + (1 : Int32))] h7 (fun x8 h9 =>
            Q 0 h9
          )
        ))
      ) ∧ (¬ ((kNext h) = (33 : Int32)) →
        ((¬ (kNext h) = (40 : Int32) →
          Cal G (d - 1) m_X1_readName [.ref 35, .int (kNext h)] h (fun x11 h12 =>
            Q 0 h12
          )
        ) ∧ ((kNext h) = (40 : Int32) →
          (((5 : Int32) ≤ a1 →
            Cal G (d - 1) m_X1_readName [.ref 35, .int (kNext h)] h (fun x14 h15 =>
              Q 0 h15
            )
          ) ∧ (¬ ((5 : Int32) ≤ a1) →
            ∀ h16 : kM, h16 = kU h 35 3 ((h 35 3) + (1 : Int32)) →
            Cal G (d - 1) m_X1_readOpened [.ref 35, .int (kNext h), .int (a1 + (1 : Int32))] h16 (fun x17 h18 =>
              Q 0 h18
            )
          ))
        ))
      ))
    ) ∧ (¬ ((kb (48 ≤ (kNext h) ∧ (kNext h) ≤ 57)) = 0) →
      Cal G (d - 1) m_X1_readNumber [.ref 35] h (fun x19 h20 =>
        Q 0 h20
      )
    ))) : Wp G d m_X1_readOperand (kEo G d m_X1_readOperand Q) 0 [.ref 35, .int a1, .null] [] h := by
  refine wp_aload_n 1 dX1_readOperand_0 rfl rfl ?_
  have c1 := H.1; replace H := H.2
  refine wp_cV (d - 1) 0 [] [] 4 dX1_readOperand_1 rfl (lk_X1_64 rfl) (by omega) kd_35 rfl rfl rfl (Nat.le_of_ble_eq_true rfl) (sp_X1_next (by omega) c1 ?_)
  refine wp_istore_n 5 dX1_readOperand_4 rfl (Nat.le_of_ble_eq_true rfl) rfl ?_
  refine wp_iload_n 6 dX1_readOperand_5 rfl rfl ?_
  refine wp_cS (d - 1) 1 [.int (kNext h)] [] 9 dX1_readOperand_6 rfl (lk_X1_75 rfl) (by omega) rfl rfl (Nat.le_of_ble_eq_true rfl) (sp_X1_isDigit (by omega)  ?_)
  refine wp_if_eq 19 12 dX1_readOperand_9 rfl rfl ⟨fun c2 => ?_, fun c2 => ?_⟩
  · replace H := H.1 c2
    refine wp_iload_n 20 dX1_readOperand_19 rfl rfl ?_
    refine wp_bipush (33 : Int32) 22 dX1_readOperand_20 kbipush_33 rfl ?_
    refine wp_icmp_eq 31 25 dX1_readOperand_22 rfl rfl ⟨fun c3 => ?_, fun c3 => ?_⟩
    · replace H := H.1 c3
      refine wp_iload_n 32 dX1_readOperand_31 rfl rfl ?_
      refine wp_iconst (5 : Int32) 33 dX1_readOperand_32 kiconst_5 rfl ?_
      refine wp_icmp_ge 57 36 dX1_readOperand_33 rfl rfl ⟨fun c4 => ?_, fun c4 => ?_⟩
      · replace H := H.1 c4
        refine wp_aload_n 58 dX1_readOperand_57 rfl rfl ?_
        refine wp_iload_n 59 dX1_readOperand_58 rfl rfl ?_
        refine wp_cV (d - 1) 1 [.int (kNext h)] [] 62 dX1_readOperand_59 rfl (lk_X1_85 rfl) (by omega) kd_35 rfl rfl rfl (Nat.le_of_ble_eq_true rfl) (H.mono (fun x5 h6 H => ?_))
        exact wp_retv dX1_readOperand_62 rfl H
      · replace H := H.2 c4
        refine wp_aload_n 37 dX1_readOperand_36 rfl rfl ?_
        refine wp_dup 38 dX1_readOperand_37 rfl rfl ?_
        refine wp_getI 41 dX1_readOperand_38 rfl fl_X1_44 kd_35 rfl ?_
        refine wp_iconst (1 : Int32) 42 dX1_readOperand_41 kiconst_1 rfl ?_
        refine wp_iadd 43 dX1_readOperand_42 rfl ?_
        refine wp_putI 46 dX1_readOperand_43 rfl fl_X1_44 fin_1_3 kd_35 rfl ?_
        refine wp_nm (fun h7 eh7 => ?_)
        replace H := H h7 eh7
        refine wp_aload_n 47 dX1_readOperand_46 rfl rfl ?_
        refine wp_iload_n 48 dX1_readOperand_47 rfl rfl ?_
        refine wp_iload_n 49 dX1_readOperand_48 rfl rfl ?_
        refine wp_iconst (1 : Int32) 50 dX1_readOperand_49 kiconst_1 rfl ?_
        refine wp_iadd 51 dX1_readOperand_50 rfl ?_
        refine wp_cV (d - 1) 2 [.int (kNext h), .int (a1 + (1 : Int32))] [] 54 dX1_readOperand_51 rfl (lk_X1_82 rfl) (by omega) kd_35 rfl rfl rfl (Nat.le_of_ble_eq_true rfl) (H.mono (fun x8 h9 H => ?_))
        refine wp_goto 62 dX1_readOperand_54 rfl ?_
        exact wp_retv dX1_readOperand_62 rfl H
    · replace H := H.2 c3
      refine wp_iload_n 26 dX1_readOperand_25 rfl rfl ?_
      refine wp_bipush (40 : Int32) 28 dX1_readOperand_26 kbipush_40 rfl ?_
      refine wp_icmp_ne 57 31 dX1_readOperand_28 rfl rfl ⟨fun c10 => ?_, fun c10 => ?_⟩
      · replace H := H.1 c10
        refine wp_aload_n 58 dX1_readOperand_57 rfl rfl ?_
        refine wp_iload_n 59 dX1_readOperand_58 rfl rfl ?_
        refine wp_cV (d - 1) 1 [.int (kNext h)] [] 62 dX1_readOperand_59 rfl (lk_X1_85 rfl) (by omega) kd_35 rfl rfl rfl (Nat.le_of_ble_eq_true rfl) (H.mono (fun x11 h12 H => ?_))
        exact wp_retv dX1_readOperand_62 rfl H
      · replace H := H.2 c10
        refine wp_iload_n 32 dX1_readOperand_31 rfl rfl ?_
        refine wp_iconst (5 : Int32) 33 dX1_readOperand_32 kiconst_5 rfl ?_
        refine wp_icmp_ge 57 36 dX1_readOperand_33 rfl rfl ⟨fun c13 => ?_, fun c13 => ?_⟩
        · replace H := H.1 c13
          refine wp_aload_n 58 dX1_readOperand_57 rfl rfl ?_
          refine wp_iload_n 59 dX1_readOperand_58 rfl rfl ?_
          refine wp_cV (d - 1) 1 [.int (kNext h)] [] 62 dX1_readOperand_59 rfl (lk_X1_85 rfl) (by omega) kd_35 rfl rfl rfl (Nat.le_of_ble_eq_true rfl) (H.mono (fun x14 h15 H => ?_))
          exact wp_retv dX1_readOperand_62 rfl H
        · replace H := H.2 c13
          refine wp_aload_n 37 dX1_readOperand_36 rfl rfl ?_
          refine wp_dup 38 dX1_readOperand_37 rfl rfl ?_
          refine wp_getI 41 dX1_readOperand_38 rfl fl_X1_44 kd_35 rfl ?_
          refine wp_iconst (1 : Int32) 42 dX1_readOperand_41 kiconst_1 rfl ?_
          refine wp_iadd 43 dX1_readOperand_42 rfl ?_
          refine wp_putI 46 dX1_readOperand_43 rfl fl_X1_44 fin_1_3 kd_35 rfl ?_
          refine wp_nm (fun h16 eh16 => ?_)
          replace H := H h16 eh16
          refine wp_aload_n 47 dX1_readOperand_46 rfl rfl ?_
          refine wp_iload_n 48 dX1_readOperand_47 rfl rfl ?_
          refine wp_iload_n 49 dX1_readOperand_48 rfl rfl ?_
          refine wp_iconst (1 : Int32) 50 dX1_readOperand_49 kiconst_1 rfl ?_
          refine wp_iadd 51 dX1_readOperand_50 rfl ?_
          refine wp_cV (d - 1) 2 [.int (kNext h), .int (a1 + (1 : Int32))] [] 54 dX1_readOperand_51 rfl (lk_X1_82 rfl) (by omega) kd_35 rfl rfl rfl (Nat.le_of_ble_eq_true rfl) (H.mono (fun x17 h18 H => ?_))
          refine wp_goto 62 dX1_readOperand_54 rfl ?_
          exact wp_retv dX1_readOperand_62 rfl H
  · replace H := H.2 c2
    refine wp_aload_n 13 dX1_readOperand_12 rfl rfl ?_
    refine wp_cV (d - 1) 0 [] [] 16 dX1_readOperand_13 rfl (lk_X1_79 rfl) (by omega) kd_35 rfl rfl rfl (Nat.le_of_ble_eq_true rfl) (H.mono (fun x19 h20 H => ?_))
    refine wp_goto 62 dX1_readOperand_16 rfl ?_
    exact wp_retv dX1_readOperand_62 rfl H

theorem cg_X1_readOperand {G : kG} {d : Nat} {Q : Int32 → kM → Prop}  {a1 : Int32} {h : kM} (hd : 8 ≤ d)  (H :
    (okN h) ∧
    (((kb (48 ≤ (kNext h) ∧ (kNext h) ≤ 57)) = 0 →
      (((kNext h) = (33 : Int32) →
        (((5 : Int32) ≤ a1 →
          Cal G (d - 1) m_X1_readName [.ref 35, .int (kNext h)] h (fun x5 h6 =>
            Q 0 h6
          )
        ) ∧ (¬ ((5 : Int32) ≤ a1) →
          ∀ h7 : kM, h7 = kU h 35 3 ((h 35 3) + (1 : Int32)) →
          Cal G (d - 1) m_X1_readOpened [.ref 35, .int (kNext h), .int (a1 + (1 : Int32))] h7 (fun x8 h9 =>
            Q 0 h9
          )
        ))
      ) ∧ (¬ ((kNext h) = (33 : Int32)) →
        ((¬ (kNext h) = (40 : Int32) →
          Cal G (d - 1) m_X1_readName [.ref 35, .int (kNext h)] h (fun x11 h12 =>
            Q 0 h12
          )
        ) ∧ ((kNext h) = (40 : Int32) →
          (((5 : Int32) ≤ a1 →
            Cal G (d - 1) m_X1_readName [.ref 35, .int (kNext h)] h (fun x14 h15 =>
              Q 0 h15
            )
          ) ∧ (¬ ((5 : Int32) ≤ a1) →
            ∀ h16 : kM, h16 = kU h 35 3 ((h 35 3) + (1 : Int32)) →
            Cal G (d - 1) m_X1_readOpened [.ref 35, .int (kNext h), .int (a1 + (1 : Int32))] h16 (fun x17 h18 =>
              Q 0 h18
            )
          ))
        ))
      ))
    ) ∧ (¬ ((kb (48 ≤ (kNext h) ∧ (kNext h) ≤ 57)) = 0) →
      Cal G (d - 1) m_X1_readNumber [.ref 35] h (fun x19 h20 =>
        Q 0 h20
      )
    ))) : Cal G d m_X1_readOperand [.ref 35, .int a1] h Q :=
  Cal.of [.ref 35, .int a1, .null] (by decide +kernel) (Nat.le_of_ble_eq_true rfl) rfl (sg_X1_readOperand_0 hd  H)

def at_X1_readLevel_34 (G : kG) (d : Nat) (Q : Int32 → kM → Prop)  (v1 : Int32) (v2 : Int32) (v3 : Int32) (v4 : Int32) (h : kM) : Prop := Wp G d m_X1_readLevel (kEo G d m_X1_readLevel Q) 34 [.ref 35, .int v1, .int v2, .int v3, .int v4, .null] [] h
theorem sg_X1_readLevel_0 {G : kG} {d : Nat} {Q : Int32 → kM → Prop}  {a1 : Int32} {a2 : Int32} {h : kM} (hd : 2 ≤ d)  (H :
    ((a1 < (5 : Int32) →
      Cal G (d - 1) m_X1_readLevel [.ref 35, .int (a1 + (1 : Int32)), .int a2] h (fun x2 h3 =>
        ((¬ a1 = (2 : Int32) →
          at_X1_readLevel_34 G d Q a1 a2 (60 : Int32) (0 : Int32) h3
        ) ∧ (a1 = (2 : Int32) →
          at_X1_readLevel_34 G d Q a1 a2 (1 : Int32) (0 : Int32) h3
        ))
      )
    ) ∧ (¬ (a1 < (5 : Int32)) →
      Cal G (d - 1) m_X1_readOperand [.ref 35, .int a2] h (fun x5 h6 =>
        Q 0 h6
      )
    ))) : Wp G d m_X1_readLevel (kEo G d m_X1_readLevel Q) 0 [.ref 35, .int a1, .int a2, .null, .null, .null] [] h := by
  refine wp_iload_n 1 dX1_readLevel_0 rfl rfl ?_
  refine wp_iconst (5 : Int32) 2 dX1_readLevel_1 kiconst_5 rfl ?_
  refine wp_icmp_lt 11 5 dX1_readLevel_2 rfl rfl ⟨fun c1 => ?_, fun c1 => ?_⟩
  · replace H := H.1 c1
    refine wp_aload_n 12 dX1_readLevel_11 rfl rfl ?_
    refine wp_iload_n 13 dX1_readLevel_12 rfl rfl ?_
    refine wp_iconst (1 : Int32) 14 dX1_readLevel_13 kiconst_1 rfl ?_
    refine wp_iadd 15 dX1_readLevel_14 rfl ?_
    refine wp_iload_n 16 dX1_readLevel_15 rfl rfl ?_
    refine wp_cV (d - 1) 2 [.int (a1 + (1 : Int32)), .int a2] [] 19 dX1_readLevel_16 rfl (lk_X1_56 rfl) (by omega) kd_35 rfl rfl rfl (Nat.le_of_ble_eq_true rfl) (H.mono (fun x2 h3 H => ?_))
    refine wp_iload_n 20 dX1_readLevel_19 rfl rfl ?_
    refine wp_iconst (2 : Int32) 21 dX1_readLevel_20 kiconst_2 rfl ?_
    refine wp_icmp_ne 28 24 dX1_readLevel_21 rfl rfl ⟨fun c4 => ?_, fun c4 => ?_⟩
    · replace H := H.1 c4
      refine wp_bipush (60 : Int32) 30 dX1_readLevel_28 kbipush_60 rfl ?_
      refine wp_istore_n 31 dX1_readLevel_30 rfl (Nat.le_of_ble_eq_true rfl) rfl ?_
      refine wp_iconst (0 : Int32) 32 dX1_readLevel_31 kiconst_0 rfl ?_
      refine wp_istore 34 dX1_readLevel_32 rfl (Nat.le_of_ble_eq_true rfl) rfl ?_
      exact H
    · replace H := H.2 c4
      refine wp_iconst (1 : Int32) 25 dX1_readLevel_24 kiconst_1 rfl ?_
      refine wp_goto 30 dX1_readLevel_25 rfl ?_
      refine wp_istore_n 31 dX1_readLevel_30 rfl (Nat.le_of_ble_eq_true rfl) rfl ?_
      refine wp_iconst (0 : Int32) 32 dX1_readLevel_31 kiconst_0 rfl ?_
      refine wp_istore 34 dX1_readLevel_32 rfl (Nat.le_of_ble_eq_true rfl) rfl ?_
      exact H
  · replace H := H.2 c1
    refine wp_aload_n 6 dX1_readLevel_5 rfl rfl ?_
    refine wp_iload_n 7 dX1_readLevel_6 rfl rfl ?_
    refine wp_cV (d - 1) 1 [.int a2] [] 10 dX1_readLevel_7 rfl (lk_X1_60 rfl) (by omega) kd_35 rfl rfl rfl (Nat.le_of_ble_eq_true rfl) (H.mono (fun x5 h6 H => ?_))
    exact wp_retv dX1_readLevel_10 rfl H

theorem cg_X1_readLevel {G : kG} {d : Nat} {Q : Int32 → kM → Prop}  {a1 : Int32} {a2 : Int32} {h : kM} (hd : 2 ≤ d)  (H :
    ((a1 < (5 : Int32) →
      Cal G (d - 1) m_X1_readLevel [.ref 35, .int (a1 + (1 : Int32)), .int a2] h (fun x2 h3 =>
        ((¬ a1 = (2 : Int32) →
          at_X1_readLevel_34 G d Q a1 a2 (60 : Int32) (0 : Int32) h3
        ) ∧ (a1 = (2 : Int32) →
          at_X1_readLevel_34 G d Q a1 a2 (1 : Int32) (0 : Int32) h3
        ))
      )
    ) ∧ (¬ (a1 < (5 : Int32)) →
      Cal G (d - 1) m_X1_readOperand [.ref 35, .int a2] h (fun x5 h6 =>
        Q 0 h6
      )
    ))) : Cal G d m_X1_readLevel [.ref 35, .int a1, .int a2] h Q :=
  Cal.of [.ref 35, .int a1, .int a2, .null, .null, .null] (by decide +kernel) (Nat.le_of_ble_eq_true rfl) rfl (sg_X1_readLevel_0 hd  H)

theorem sg_X1_readLevel_34 {G : kG} {d : Nat} {Q : Int32 → kM → Prop}  {v1 : Int32} {v2 : Int32} {v3 : Int32} {v4 : Int32} {h : kM} (hd : 2 ≤ d)  (H :
    ((v3 ≤ v4 →
      Q 0 h
    ) ∧ (¬ (v3 ≤ v4) →
      ((¬ (h 35 4) = 0 →
        Q 0 h
      ) ∧ ((h 35 4) = 0 →
        (okN h) ∧
        ((¬ (kLvl (kNext h)) = v1 →
          Q 0 h
        ) ∧ ((kLvl (kNext h)) = v1 →
          (okN h) ∧
          ∀ h6 : kM, h6 = kU h 35 3 ((h 35 3) + (1 : Int32)) →
          Cal G (d - 1) m_X1_readLevel [.ref 35, .int (v1 + (1 : Int32)), .int v2] h6 (fun x7 h8 =>
            Cal G (d - 1) m_X6_add [.ref 36, .int (-(kNext h))] h8 (fun x9 h10 =>
              at_X1_readLevel_34 G d Q v1 v2 v3 (v4 + (1 : Int32)) h10
            )
          )
        ))
      ))
    ))) : at_X1_readLevel_34 G d Q v1 v2 v3 v4 h := by
  show Wp G d m_X1_readLevel (kEo G d m_X1_readLevel Q) 34 [.ref 35, .int v1, .int v2, .int v3, .int v4, .null] [] h
  refine wp_iload 36 dX1_readLevel_34 rfl rfl ?_
  refine wp_iload_n 37 dX1_readLevel_36 rfl rfl ?_
  refine wp_icmp_ge 98 40 dX1_readLevel_37 rfl rfl ⟨fun c1 => ?_, fun c1 => ?_⟩
  · replace H := H.1 c1
    exact wp_retv dX1_readLevel_98 rfl H
  · replace H := H.2 c1
    refine wp_aload_n 41 dX1_readLevel_40 rfl rfl ?_
    refine wp_getI 44 dX1_readLevel_41 rfl fl_X1_47 kd_35 rfl ?_
    refine wp_if_ne 98 47 dX1_readLevel_44 rfl rfl ⟨fun c2 => ?_, fun c2 => ?_⟩
    · replace H := H.1 c2
      exact wp_retv dX1_readLevel_98 rfl H
    · replace H := H.2 c2
      refine wp_aload_n 48 dX1_readLevel_47 rfl rfl ?_
      have c3 := H.1; replace H := H.2
      refine wp_cV (d - 1) 0 [] [] 51 dX1_readLevel_48 rfl (lk_X1_64 rfl) (by omega) kd_35 rfl rfl rfl (Nat.le_of_ble_eq_true rfl) (sp_X1_next (by omega) c3 ?_)
      refine wp_cS (d - 1) 1 [.int (kNext h)] [] 54 dX1_readLevel_51 rfl (lk_X1_68 rfl) (by omega) rfl rfl (Nat.le_of_ble_eq_true rfl) (sp_X1_levelOf (by omega)  ?_)
      refine wp_iload_n 55 dX1_readLevel_54 rfl rfl ?_
      refine wp_icmp_ne 98 58 dX1_readLevel_55 rfl rfl ⟨fun c4 => ?_, fun c4 => ?_⟩
      · replace H := H.1 c4
        exact wp_retv dX1_readLevel_98 rfl H
      · replace H := H.2 c4
        refine wp_aload_n 59 dX1_readLevel_58 rfl rfl ?_
        have c5 := H.1; replace H := H.2
        refine wp_cV (d - 1) 0 [] [] 62 dX1_readLevel_59 rfl (lk_X1_64 rfl) (by omega) kd_35 rfl rfl rfl (Nat.le_of_ble_eq_true rfl) (sp_X1_next (by omega) c5 ?_)
        refine wp_istore 64 dX1_readLevel_62 rfl (Nat.le_of_ble_eq_true rfl) rfl ?_
        refine wp_aload_n 65 dX1_readLevel_64 rfl rfl ?_
        refine wp_dup 66 dX1_readLevel_65 rfl rfl ?_
        refine wp_getI 69 dX1_readLevel_66 rfl fl_X1_44 kd_35 rfl ?_
        refine wp_iconst (1 : Int32) 70 dX1_readLevel_69 kiconst_1 rfl ?_
        refine wp_iadd 71 dX1_readLevel_70 rfl ?_
        refine wp_putI 74 dX1_readLevel_71 rfl fl_X1_44 fin_1_3 kd_35 rfl ?_
        refine wp_nm (fun h6 eh6 => ?_)
        replace H := H h6 eh6
        refine wp_aload_n 75 dX1_readLevel_74 rfl rfl ?_
        refine wp_iload_n 76 dX1_readLevel_75 rfl rfl ?_
        refine wp_iconst (1 : Int32) 77 dX1_readLevel_76 kiconst_1 rfl ?_
        refine wp_iadd 78 dX1_readLevel_77 rfl ?_
        refine wp_iload_n 79 dX1_readLevel_78 rfl rfl ?_
        refine wp_cV (d - 1) 2 [.int (v1 + (1 : Int32)), .int v2] [] 82 dX1_readLevel_79 rfl (lk_X1_56 rfl) (by omega) kd_35 rfl rfl rfl (Nat.le_of_ble_eq_true rfl) (H.mono (fun x7 h8 H => ?_))
        refine wp_aload_n 83 dX1_readLevel_82 rfl rfl ?_
        refine wp_getR 1 36 86 dX1_readLevel_83 rfl fl_X1_12 kd_35 rfl rfl rfl rfl ?_
        refine wp_iload 88 dX1_readLevel_86 rfl rfl ?_
        refine wp_ineg 89 dX1_readLevel_88 rfl ?_
        refine wp_cV (d - 1) 1 [.int (-(kNext h))] [] 92 dX1_readLevel_89 rfl (lk_X1_72 rfl) (by omega) kd_36 rfl rfl rfl (Nat.le_of_ble_eq_true rfl) (H.mono (fun x9 h10 H => ?_))
        refine wp_iinc (1 : Int32) 95 dX1_readLevel_92 rfl rfl kiconst_1 (Nat.le_of_ble_eq_true rfl) rfl ?_
        refine wp_goto 34 dX1_readLevel_95 rfl ?_
        refine wp_drop 5 ?_
        exact H

theorem sg_X1_faultOf_0 {G : kG} {d : Nat} {Q : Int32 → kM → Prop}  {a1 : Int32} {a2 : Int32} {h : kM} (hd : 3 ≤ d)  (H :
    ∀ h1 : kM, h1 = kU h 35 2 (if (60 : Int32) < a1 then (60 : Int32) else a1) →
    (¬ (0 : Int32) < 0 ∧ ¬ (0 : Int32) < 0 ∧ ¬ (h1 35 2) < 0 ∧ ((0 : Int32)).toNatClampNeg + ((h1 35 2)).toNatClampNeg ≤ 60 ∧ ((0 : Int32)).toNatClampNeg + ((h1 35 2)).toNatClampNeg ≤ 60) ∧
    ∀ h3 : kM, h3 = kCp h1 10 39 0 0 ((h1 35 2)).toNatClampNeg →
    ∀ h4 : kM, h4 = kU h3 35 3 (0 : Int32) →
    ∀ h5 : kM, h5 = kU h4 35 4 (0 : Int32) →
    ((¬ a2 = 0 →
      ∀ h7 : kM, h7 = kU h5 35 5 (1 : Int32) →
      ∀ h8 : kM, h8 = kU h7 36 2 0 →
      Cal G (d - 1) m_X1_readLevel [.ref 35, .int (0 : Int32), .int (0 : Int32)] h8 (fun x9 h10 =>
        ((¬ (h10 35 4) = 0 →
          Q (h10 35 3) h10
        ) ∧ ((h10 35 4) = 0 →
          (((h10 35 2) ≤ (h10 35 3) →
            Q (-1 : Int32) h10
          ) ∧ (¬ ((h10 35 2) ≤ (h10 35 3)) →
            Q (h10 35 3) h10
          ))
        ))
      )
    ) ∧ (a2 = 0 →
      ∀ h13 : kM, h13 = kU h5 35 5 (0 : Int32) →
      ∀ h14 : kM, h14 = kU h13 36 2 0 →
      Cal G (d - 1) m_X1_readLevel [.ref 35, .int (0 : Int32), .int (0 : Int32)] h14 (fun x15 h16 =>
        ((¬ (h16 35 4) = 0 →
          Q (h16 35 3) h16
        ) ∧ ((h16 35 4) = 0 →
          (((h16 35 2) ≤ (h16 35 3) →
            Q (-1 : Int32) h16
          ) ∧ (¬ ((h16 35 2) ≤ (h16 35 3)) →
            Q (h16 35 3) h16
          ))
        ))
      )
    ))) : Wp G d m_X1_faultOf (kEo G d m_X1_faultOf Q) 0 [.ref 35, .ref 10, .int a1, .int a2] [] h := by
  refine wp_aload_n 1 dX1_faultOf_0 rfl rfl ?_
  refine wp_iload_n 2 dX1_faultOf_1 rfl rfl ?_
  refine wp_bipush (60 : Int32) 4 dX1_faultOf_2 kbipush_60 rfl ?_
  refine wp_min 7 dX1_faultOf_4 rfl mn_X1_28 (by omega) (Nat.le_of_ble_eq_true rfl) ?_
  refine wp_putI 10 dX1_faultOf_7 rfl fl_X1_34 fin_1_2 kd_35 rfl ?_
  refine wp_nm (fun h1 eh1 => ?_)
  replace H := H h1 eh1
  refine wp_aload_n 11 dX1_faultOf_10 rfl rfl ?_
  refine wp_iconst (0 : Int32) 12 dX1_faultOf_11 kiconst_0 rfl ?_
  refine wp_aload_n 13 dX1_faultOf_12 rfl rfl ?_
  refine wp_getR 4 39 16 dX1_faultOf_13 rfl fl_X1_18 kd_35 rfl rfl rfl rfl ?_
  refine wp_iconst (0 : Int32) 17 dX1_faultOf_16 kiconst_0 rfl ?_
  refine wp_aload_n 18 dX1_faultOf_17 rfl rfl ?_
  refine wp_getI 21 dX1_faultOf_18 rfl fl_X1_34 kd_35 rfl ?_
  have c2 := H.1; replace H := H.2
  refine wp_copy 24 dX1_faultOf_21 rfl ac_X1_38 (by omega) (Nat.le_of_ble_eq_true rfl) kd_10 kd_39 c2.1 c2.2.1 c2.2.2.1 c2.2.2.2.1 c2.2.2.2.2 ?_
  refine wp_nm (fun h3 eh3 => ?_)
  replace H := H h3 eh3
  refine wp_aload_n 25 dX1_faultOf_24 rfl rfl ?_
  refine wp_iconst (0 : Int32) 26 dX1_faultOf_25 kiconst_0 rfl ?_
  refine wp_putI 29 dX1_faultOf_26 rfl fl_X1_44 fin_1_3 kd_35 rfl ?_
  refine wp_nm (fun h4 eh4 => ?_)
  replace H := H h4 eh4
  refine wp_aload_n 30 dX1_faultOf_29 rfl rfl ?_
  refine wp_iconst (0 : Int32) 31 dX1_faultOf_30 kiconst_0 rfl ?_
  refine wp_putZ 34 dX1_faultOf_31 rfl fl_X1_47 fin_1_4 kd_35 rfl (Or.inl rfl) ?_
  refine wp_nm (fun h5 eh5 => ?_)
  replace H := H h5 eh5
  refine wp_aload_n 35 dX1_faultOf_34 rfl rfl ?_
  refine wp_iload_n 36 dX1_faultOf_35 rfl rfl ?_
  refine wp_if_ne 44 39 dX1_faultOf_36 rfl rfl ⟨fun c6 => ?_, fun c6 => ?_⟩
  · replace H := H.1 c6
    refine wp_ldcS 1001 46 dX1_faultOf_44 rfl rfl (Or.inr ⟨rfl, rfl⟩) ?_
    refine wp_putS (1 : Int32) 49 dX1_faultOf_46 rfl fl_X1_24 fin_1_5 kd_35 rfl rfl ?_
    refine wp_nm (fun h7 eh7 => ?_)
    replace H := H h7 eh7
    refine wp_aload_n 50 dX1_faultOf_49 rfl rfl ?_
    refine wp_getR 1 36 53 dX1_faultOf_50 rfl fl_X1_12 kd_35 rfl rfl rfl rfl ?_
    refine wp_cV (d - 1) 0 [] [] 56 dX1_faultOf_53 rfl (lk_X1_53 rfl) (by omega) kd_36 rfl rfl rfl (Nat.le_of_ble_eq_true rfl) (sp_X6_clear (by omega) kTxt_is36 (fun h8 eh8 => ?_))
    replace H := H h8 eh8
    refine wp_aload_n 57 dX1_faultOf_56 rfl rfl ?_
    refine wp_iconst (0 : Int32) 58 dX1_faultOf_57 kiconst_0 rfl ?_
    refine wp_iconst (0 : Int32) 59 dX1_faultOf_58 kiconst_0 rfl ?_
    refine wp_cV (d - 1) 2 [.int (0 : Int32), .int (0 : Int32)] [] 62 dX1_faultOf_59 rfl (lk_X1_56 rfl) (by omega) kd_35 rfl rfl rfl (Nat.le_of_ble_eq_true rfl) (H.mono (fun x9 h10 H => ?_))
    refine wp_aload_n 63 dX1_faultOf_62 rfl rfl ?_
    refine wp_getI 66 dX1_faultOf_63 rfl fl_X1_47 kd_35 rfl ?_
    refine wp_if_ne 80 69 dX1_faultOf_66 rfl rfl ⟨fun c11 => ?_, fun c11 => ?_⟩
    · replace H := H.1 c11
      refine wp_aload_n 81 dX1_faultOf_80 rfl rfl ?_
      refine wp_getI 84 dX1_faultOf_81 rfl fl_X1_44 kd_35 rfl ?_
      refine wp_goto 88 dX1_faultOf_84 rfl ?_
      exact wp_reti dX1_faultOf_88 rfl H
    · replace H := H.2 c11
      refine wp_aload_n 70 dX1_faultOf_69 rfl rfl ?_
      refine wp_getI 73 dX1_faultOf_70 rfl fl_X1_44 kd_35 rfl ?_
      refine wp_aload_n 74 dX1_faultOf_73 rfl rfl ?_
      refine wp_getI 77 dX1_faultOf_74 rfl fl_X1_34 kd_35 rfl ?_
      refine wp_icmp_ge 87 80 dX1_faultOf_77 rfl rfl ⟨fun c12 => ?_, fun c12 => ?_⟩
      · replace H := H.1 c12
        refine wp_iconst (-1 : Int32) 88 dX1_faultOf_87 kiconst_m1 rfl ?_
        exact wp_reti dX1_faultOf_88 rfl H
      · replace H := H.2 c12
        refine wp_aload_n 81 dX1_faultOf_80 rfl rfl ?_
        refine wp_getI 84 dX1_faultOf_81 rfl fl_X1_44 kd_35 rfl ?_
        refine wp_goto 88 dX1_faultOf_84 rfl ?_
        exact wp_reti dX1_faultOf_88 rfl H
  · replace H := H.2 c6
    refine wp_ldcS 1000 41 dX1_faultOf_39 rfl rfl (Or.inl ⟨rfl, rfl⟩) ?_
    refine wp_goto 46 dX1_faultOf_41 rfl ?_
    refine wp_putS (0 : Int32) 49 dX1_faultOf_46 rfl fl_X1_24 fin_1_5 kd_35 rfl rfl ?_
    refine wp_nm (fun h13 eh13 => ?_)
    replace H := H h13 eh13
    refine wp_aload_n 50 dX1_faultOf_49 rfl rfl ?_
    refine wp_getR 1 36 53 dX1_faultOf_50 rfl fl_X1_12 kd_35 rfl rfl rfl rfl ?_
    refine wp_cV (d - 1) 0 [] [] 56 dX1_faultOf_53 rfl (lk_X1_53 rfl) (by omega) kd_36 rfl rfl rfl (Nat.le_of_ble_eq_true rfl) (sp_X6_clear (by omega) kTxt_is36 (fun h14 eh14 => ?_))
    replace H := H h14 eh14
    refine wp_aload_n 57 dX1_faultOf_56 rfl rfl ?_
    refine wp_iconst (0 : Int32) 58 dX1_faultOf_57 kiconst_0 rfl ?_
    refine wp_iconst (0 : Int32) 59 dX1_faultOf_58 kiconst_0 rfl ?_
    refine wp_cV (d - 1) 2 [.int (0 : Int32), .int (0 : Int32)] [] 62 dX1_faultOf_59 rfl (lk_X1_56 rfl) (by omega) kd_35 rfl rfl rfl (Nat.le_of_ble_eq_true rfl) (H.mono (fun x15 h16 H => ?_))
    refine wp_aload_n 63 dX1_faultOf_62 rfl rfl ?_
    refine wp_getI 66 dX1_faultOf_63 rfl fl_X1_47 kd_35 rfl ?_
    refine wp_if_ne 80 69 dX1_faultOf_66 rfl rfl ⟨fun c17 => ?_, fun c17 => ?_⟩
    · replace H := H.1 c17
      refine wp_aload_n 81 dX1_faultOf_80 rfl rfl ?_
      refine wp_getI 84 dX1_faultOf_81 rfl fl_X1_44 kd_35 rfl ?_
      refine wp_goto 88 dX1_faultOf_84 rfl ?_
      exact wp_reti dX1_faultOf_88 rfl H
    · replace H := H.2 c17
      refine wp_aload_n 70 dX1_faultOf_69 rfl rfl ?_
      refine wp_getI 73 dX1_faultOf_70 rfl fl_X1_44 kd_35 rfl ?_
      refine wp_aload_n 74 dX1_faultOf_73 rfl rfl ?_
      refine wp_getI 77 dX1_faultOf_74 rfl fl_X1_34 kd_35 rfl ?_
      refine wp_icmp_ge 87 80 dX1_faultOf_77 rfl rfl ⟨fun c18 => ?_, fun c18 => ?_⟩
      · replace H := H.1 c18
        refine wp_iconst (-1 : Int32) 88 dX1_faultOf_87 kiconst_m1 rfl ?_
        exact wp_reti dX1_faultOf_88 rfl H
      · replace H := H.2 c18
        refine wp_aload_n 81 dX1_faultOf_80 rfl rfl ?_
        refine wp_getI 84 dX1_faultOf_81 rfl fl_X1_44 kd_35 rfl ?_
        refine wp_goto 88 dX1_faultOf_84 rfl ?_
        exact wp_reti dX1_faultOf_88 rfl H

theorem cg_X1_faultOf {G : kG} {d : Nat} {Q : Int32 → kM → Prop}  {a1 : Int32} {a2 : Int32} {h : kM} (hd : 3 ≤ d)  (H :
    ∀ h1 : kM, h1 = kU h 35 2 (if (60 : Int32) < a1 then (60 : Int32) else a1) →
    (¬ (0 : Int32) < 0 ∧ ¬ (0 : Int32) < 0 ∧ ¬ (h1 35 2) < 0 ∧ ((0 : Int32)).toNatClampNeg + ((h1 35 2)).toNatClampNeg ≤ 60 ∧ ((0 : Int32)).toNatClampNeg + ((h1 35 2)).toNatClampNeg ≤ 60) ∧
    ∀ h3 : kM, h3 = kCp h1 10 39 0 0 ((h1 35 2)).toNatClampNeg →
    ∀ h4 : kM, h4 = kU h3 35 3 (0 : Int32) →
    ∀ h5 : kM, h5 = kU h4 35 4 (0 : Int32) →
    ((¬ a2 = 0 →
      ∀ h7 : kM, h7 = kU h5 35 5 (1 : Int32) →
      ∀ h8 : kM, h8 = kU h7 36 2 0 →
      Cal G (d - 1) m_X1_readLevel [.ref 35, .int (0 : Int32), .int (0 : Int32)] h8 (fun x9 h10 =>
        ((¬ (h10 35 4) = 0 →
          Q (h10 35 3) h10
        ) ∧ ((h10 35 4) = 0 →
          (((h10 35 2) ≤ (h10 35 3) →
            Q (-1 : Int32) h10
          ) ∧ (¬ ((h10 35 2) ≤ (h10 35 3)) →
            Q (h10 35 3) h10
          ))
        ))
      )
    ) ∧ (a2 = 0 →
      ∀ h13 : kM, h13 = kU h5 35 5 (0 : Int32) →
      ∀ h14 : kM, h14 = kU h13 36 2 0 →
      Cal G (d - 1) m_X1_readLevel [.ref 35, .int (0 : Int32), .int (0 : Int32)] h14 (fun x15 h16 =>
        ((¬ (h16 35 4) = 0 →
          Q (h16 35 3) h16
        ) ∧ ((h16 35 4) = 0 →
          (((h16 35 2) ≤ (h16 35 3) →
            Q (-1 : Int32) h16
          ) ∧ (¬ ((h16 35 2) ≤ (h16 35 3)) →
            Q (h16 35 3) h16
          ))
        ))
      )
    ))) : Cal G d m_X1_faultOf [.ref 35, .ref 10, .int a1, .int a2] h Q :=
  Cal.of [.ref 35, .ref 10, .int a1, .int a2] (by decide +kernel) (Nat.le_of_ble_eq_true rfl) rfl (sg_X1_faultOf_0 hd  H)

end Read
/-- the byte at hand, or -1 -/
def rNx (T : Nat → Int32) (L a : Nat) : Int32 := if a < L then T a else -1
abbrev kRes : Type := Nat × Option (List (Int32 × Int32))
def rNum (T : Nat → Int32) (L : Nat) : Nat → Int32 → Nat → Int32 × Nat
  | 0, v, a => (v, a)
  | n + 1, v, a => if 48 ≤ rNx T L a ∧ rNx T L a ≤ 57 then rNum T L n (10 * v + rNx T L a - 48) (a + 1) else (v, a)
def rOne (T : Nat → Int32) (L : Nat) (u : Int32) (R : Nat → Nat → kRes) (f a : Nat) : kRes :=
  if 48 ≤ rNx T L a ∧ rNx T L a ≤ 57 then ((rNum T L 4 0 a).2, some [(0, (rNum T L 4 0 a).1)])
  else if rNx T L a = 33 ∧ 6 ≤ f then ((R (f - 6) (a + 1)).1, (R (f - 6) (a + 1)).2.map (fun ts => ts ++ [(2, 0)]))
  else if rNx T L a = 40 ∧ 6 ≤ f then
    match R (f - 1) (a + 1) with
    | (b, none) => (b, none)
    | (b, some ts) => if rNx T L b = 41 then (b + 1, some ts) else (b, none)
  else if mNm u (rNx T L a) then (a + 1, some [(1, rNx T L a)]) else (a, none)
def rLoop (T : Nat → Int32) (L : Nat) (l : Int32) (S : Nat → kRes) : Nat → Nat → List (Int32 × Int32) → kRes
  | 0, a, ts => (a, some ts)
  | k + 1, a, ts => if kLvl (rNx T L a) = l then
      match S (a + 1) with
      | (b, none) => (b, none)
      | (b, some us) => rLoop T L l S k b (ts ++ us ++ [(3, rNx T L a)])
    else (a, some ts)
def rMost (l : Nat) : Nat := if l = 2 then 1 else 60
def rStep (T : Nat → Int32) (L : Nat) (u : Int32) (R : Nat → Nat → kRes) (f a : Nat) : kRes :=
  if f % 6 = 0 then rOne T L u R f a
  else match R (f - 1) a with
    | (b, none) => (b, none)
    | (b, some ts) => rLoop T L (nI (5 - f % 6)) (R (f - 1)) (rMost (5 - f % 6)) b ts
def rTab (T : Nat → Int32) (L : Nat) (u : Int32) : Nat → Nat → Nat → kRes
  | 0, _, a => (a, none)
  | n + 1, f, a => if f = n then rStep T L u (rTab T L u n) n a else rTab T L u n f a
/-- the reading: f = 6 * (5 - open) + (5 - level) -/
def rP (T : Nat → Int32) (L : Nat) (u : Int32) (f a : Nat) : kRes := rTab T L u (f + 1) f a
theorem rTab_lt {T : Nat → Int32} {L : Nat} {u : Int32} {f a : Nat} : ∀ n, f < n → rTab T L u n f a = rP T L u f a
  | 0, hf => absurd hf (by omega)
  | n + 1, hf => by
    by_cases e : f = n
    · subst e
      rfl
    · show (if f = n then _ else rTab T L u n f a) = _
      rw [if_neg e]
      exact rTab_lt n (by omega)
theorem rP_eq (T : Nat → Int32) (L : Nat) (u : Int32) (f a : Nat) : rP T L u f a = rStep T L u (rTab T L u f) f a := if_pos rfl
/-- an operand -/
theorem rP_one {T : Nat → Int32} {L : Nat} {u : Int32} {f a : Nat} (hf : f % 6 = 0) : rP T L u f a = rOne T L u (rP T L u) f a := by
  rw [rP_eq]
  unfold rStep
  rw [if_pos hf]
  unfold rOne
  by_cases e : 6 ≤ f
  · rw [rTab_lt f (by omega : f - 6 < f), rTab_lt f (by omega : f - 1 < f)]
  · simp only [e, and_false, if_false]
/-- a level -/
theorem rP_lvl {T : Nat → Int32} {L : Nat} {u : Int32} {f a : Nat} (hf : ¬ f % 6 = 0) : rP T L u f a = (match rP T L u (f - 1) a with
    | (b, none) => (b, none)
    | (b, some ts) => rLoop T L (nI (5 - f % 6)) (rP T L u (f - 1)) (rMost (5 - f % 6)) b ts) := by
  rw [rP_eq]
  unfold rStep
  rw [if_neg hf]
  have e : rTab T L u f (f - 1) = rP T L u (f - 1) := funext fun b => rTab_lt f (by omega)
  rw [e]
/-- what a reading keeps: it goes on, within the bytes, by one token a byte at most, each of them one that the text may hold, over one value more -/
def kEncT (u : Int32) (t : Int32 × Int32) : Int32 := kEnc u t.1 t.2
def kHl (u : Int32) : List (Int32 × Int32) → Nat → Option Nat
  | [], k => some k
  | t :: ts, k => (kHt1 (kEncT u t) k).bind (kHl u ts)
theorem kHl_app {u : Int32} : ∀ (ts us : List (Int32 × Int32)) (k : Nat), kHl u (ts ++ us) k = (kHl u ts k).bind (kHl u us)
  | [], us, k => rfl
  | t :: ts, us, k => by
    show (kHt1 (kEncT u t) k).bind (kHl u (ts ++ us)) = ((kHt1 (kEncT u t) k).bind (kHl u ts)).bind (kHl u us)
    cases kHt1 (kEncT u t) k with
    | none => rfl
    | some k2 => exact kHl_app ts us k2
def rGood (L : Nat) (u : Int32) (a : Nat) (r : kRes) : Prop := a ≤ r.1 ∧ r.1 ≤ L ∧ ∀ ts, r.2 = some ts → ts.length + a ≤ r.1 ∧ (∀ t ∈ ts, kTokOk u t.1 t.2) ∧ ∀ k, kHl u ts k = some (k + 1)

