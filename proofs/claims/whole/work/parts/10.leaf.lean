/-! the leaves of the class -/
def iR (x y : Int32) : Int32 := x - x / y * y
theorem kq1 {Q : Int32 → kM → Prop} {c : Prop} [Decidable c] {h : kM} (k : Q (kb c) h) (hc : c) : Q 1 h := by rw [kb_t hc] at k; exact k
theorem kq0 {Q : Int32 → kM → Prop} {c : Prop} [Decidable c] {h : kM} (k : Q (kb c) h) (hc : ¬ c) : Q 0 h := by rw [kb_f hc] at k; exact k
theorem nlt {x y : Int32} (h : ¬ x < y) : y ≤ x := Int32.not_lt.mp h
theorem nle {x y : Int32} (h : ¬ x ≤ y) : y < x := Int32.not_le.mp h
theorem ltn {x y : Int32} (h : x < y) : ¬ y ≤ x := Int32.not_le.mpr h
theorem len {x y : Int32} (h : x ≤ y) : ¬ y < x := Int32.not_lt.mpr h
section Leaves
variable {G : kG} {d : Nat} {Q : Int32 → kM → Prop} {h : kM}
theorem sg_X7_within_0 {G : kG} {d : Nat} {Q : Int32 → kM → Prop}  {a1 : Int32} {a2 : Int32} {h : kM} (hd : 1 ≤ d)  (H :
    ((a1 < 0 →
      Q (0 : Int32) h
    ) ∧ (¬ (a1 < 0) →
      ((a2 ≤ a1 →
        Q (0 : Int32) h
      ) ∧ (¬ (a2 ≤ a1) →
        Q (1 : Int32) h
      ))
    ))) : Wp G d m_X7_within (kEo G d m_X7_within Q) 0 [.int a1, .int a2] [] h := by
  refine wp_iload_n 1 dX7_within_0 rfl rfl ?_
  refine wp_if_lt 13 4 dX7_within_1 rfl rfl ⟨fun c2 => ?_, fun c2 => ?_⟩
  · replace H := H.1 c2
    refine wp_iconst (0 : Int32) 14 dX7_within_13 kiconst_0 rfl ?_
    exact wp_retz dX7_within_14 rfl (Or.inl rfl) H
  · replace H := H.2 c2
    refine wp_iload_n 5 dX7_within_4 rfl rfl ?_
    refine wp_iload_n 6 dX7_within_5 rfl rfl ?_
    refine wp_icmp_ge 13 9 dX7_within_6 rfl rfl ⟨fun c1 => ?_, fun c1 => ?_⟩
    · replace H := H.1 c1
      refine wp_iconst (0 : Int32) 14 dX7_within_13 kiconst_0 rfl ?_
      exact wp_retz dX7_within_14 rfl (Or.inl rfl) H
    · replace H := H.2 c1
      refine wp_iconst (1 : Int32) 10 dX7_within_9 kiconst_1 rfl ?_
      refine wp_goto 14 dX7_within_10 rfl ?_
      exact wp_retz dX7_within_14 rfl (Or.inr rfl) H

theorem cg_X7_within {G : kG} {d : Nat} {Q : Int32 → kM → Prop}  {a1 : Int32} {a2 : Int32} {h : kM} (hd : 1 ≤ d)  (H :
    ((a1 < 0 →
      Q (0 : Int32) h
    ) ∧ (¬ (a1 < 0) →
      ((a2 ≤ a1 →
        Q (0 : Int32) h
      ) ∧ (¬ (a2 ≤ a1) →
        Q (1 : Int32) h
      ))
    ))) : Cal G d m_X7_within [.int a1, .int a2] h Q :=
  Cal.of [.int a1, .int a2] (by decide +kernel) (Nat.le_of_ble_eq_true rfl) rfl (sg_X7_within_0 hd  H)

theorem sg_X7_between_0 {G : kG} {d : Nat} {Q : Int32 → kM → Prop}  {a1 : Int32} {a2 : Int32} {a3 : Int32} {h : kM} (hd : 1 ≤ d)  (H :
    ((a1 < a2 →
      Q (0 : Int32) h
    ) ∧ (¬ (a1 < a2) →
      ((a3 < a1 →
        Q (0 : Int32) h
      ) ∧ (¬ (a3 < a1) →
        Q (1 : Int32) h
      ))
    ))) : Wp G d m_X7_between (kEo G d m_X7_between Q) 0 [.int a1, .int a2, .int a3] [] h := by
  refine wp_iload_n 1 dX7_between_0 rfl rfl ?_
  refine wp_iload_n 2 dX7_between_1 rfl rfl ?_
  refine wp_icmp_lt 14 5 dX7_between_2 rfl rfl ⟨fun c2 => ?_, fun c2 => ?_⟩
  · replace H := H.1 c2
    refine wp_iconst (0 : Int32) 15 dX7_between_14 kiconst_0 rfl ?_
    exact wp_retz dX7_between_15 rfl (Or.inl rfl) H
  · replace H := H.2 c2
    refine wp_iload_n 6 dX7_between_5 rfl rfl ?_
    refine wp_iload_n 7 dX7_between_6 rfl rfl ?_
    refine wp_icmp_gt 14 10 dX7_between_7 rfl rfl ⟨fun c1 => ?_, fun c1 => ?_⟩
    · replace H := H.1 c1
      refine wp_iconst (0 : Int32) 15 dX7_between_14 kiconst_0 rfl ?_
      exact wp_retz dX7_between_15 rfl (Or.inl rfl) H
    · replace H := H.2 c1
      refine wp_iconst (1 : Int32) 11 dX7_between_10 kiconst_1 rfl ?_
      refine wp_goto 15 dX7_between_11 rfl ?_
      exact wp_retz dX7_between_15 rfl (Or.inr rfl) H

theorem cg_X7_between {G : kG} {d : Nat} {Q : Int32 → kM → Prop}  {a1 : Int32} {a2 : Int32} {a3 : Int32} {h : kM} (hd : 1 ≤ d)  (H :
    ((a1 < a2 →
      Q (0 : Int32) h
    ) ∧ (¬ (a1 < a2) →
      ((a3 < a1 →
        Q (0 : Int32) h
      ) ∧ (¬ (a3 < a1) →
        Q (1 : Int32) h
      ))
    ))) : Cal G d m_X7_between [.int a1, .int a2, .int a3] h Q :=
  Cal.of [.int a1, .int a2, .int a3] (by decide +kernel) (Nat.le_of_ble_eq_true rfl) rfl (sg_X7_between_0 hd  H)

theorem sg_X7_cellOf_0 {G : kG} {d : Nat} {Q : Int32 → kM → Prop}  {a1 : Int32} {h : kM} (hd : 1 ≤ d)  (H :
    Q (a1 - a1 / (64 : Int32) * (64 : Int32)) h) : Wp G d m_X7_cellOf (kEo G d m_X7_cellOf Q) 0 [.int a1] [] h := by
  refine wp_iload_n 1 dX7_cellOf_0 rfl rfl ?_
  refine wp_bipush (64 : Int32) 3 dX7_cellOf_1 kbipush_64 rfl ?_
  refine wp_irem 4 dX7_cellOf_3 (by decide) rfl ?_
  exact wp_reti dX7_cellOf_4 rfl H

theorem cg_X7_cellOf {G : kG} {d : Nat} {Q : Int32 → kM → Prop}  {a1 : Int32} {h : kM} (hd : 1 ≤ d)  (H :
    Q (a1 - a1 / (64 : Int32) * (64 : Int32)) h) : Cal G d m_X7_cellOf [.int a1] h Q :=
  Cal.of [.int a1] (by decide +kernel) (Nat.le_of_ble_eq_true rfl) rfl (sg_X7_cellOf_0 hd  H)

theorem sg_X7_stateOf_0 {G : kG} {d : Nat} {Q : Int32 → kM → Prop}  {a1 : Int32} {h : kM} (hd : 1 ≤ d)  (H :
    Q (a1 / (64 : Int32)) h) : Wp G d m_X7_stateOf (kEo G d m_X7_stateOf Q) 0 [.int a1] [] h := by
  refine wp_iload_n 1 dX7_stateOf_0 rfl rfl ?_
  refine wp_bipush (64 : Int32) 3 dX7_stateOf_1 kbipush_64 rfl ?_
  refine wp_idiv 4 dX7_stateOf_3 (by decide) rfl ?_
  exact wp_reti dX7_stateOf_4 rfl H

theorem cg_X7_stateOf {G : kG} {d : Nat} {Q : Int32 → kM → Prop}  {a1 : Int32} {h : kM} (hd : 1 ≤ d)  (H :
    Q (a1 / (64 : Int32)) h) : Cal G d m_X7_stateOf [.int a1] h Q :=
  Cal.of [.int a1] (by decide +kernel) (Nat.le_of_ble_eq_true rfl) rfl (sg_X7_stateOf_0 hd  H)

theorem sg_X7_laid_0 {G : kG} {d : Nat} {Q : Int32 → kM → Prop}  {a1 : Int32} {a2 : Int32} {h : kM} (hd : 1 ≤ d)  (H :
    ((¬ a1 = a2 →
      Q (((64 : Int32) * (0 : Int32)) + a1) h
    ) ∧ (a1 = a2 →
      Q (((64 : Int32) * (2 : Int32)) + a1) h
    ))) : Wp G d m_X7_laid (kEo G d m_X7_laid Q) 0 [.int a1, .int a2] [] h := by
  refine wp_bipush (64 : Int32) 2 dX7_laid_0 kbipush_64 rfl ?_
  refine wp_iload_n 3 dX7_laid_2 rfl rfl ?_
  refine wp_iload_n 4 dX7_laid_3 rfl rfl ?_
  refine wp_icmp_ne 11 7 dX7_laid_4 rfl rfl ⟨fun c1 => ?_, fun c1 => ?_⟩
  · replace H := H.1 c1
    refine wp_iconst (0 : Int32) 12 dX7_laid_11 kiconst_0 rfl ?_
    refine wp_imul 13 dX7_laid_12 rfl ?_
    refine wp_iload_n 14 dX7_laid_13 rfl rfl ?_
    refine wp_iadd 15 dX7_laid_14 rfl ?_
    exact wp_reti dX7_laid_15 rfl H
  · replace H := H.2 c1
    refine wp_iconst (2 : Int32) 8 dX7_laid_7 kiconst_2 rfl ?_
    refine wp_goto 12 dX7_laid_8 rfl ?_
    refine wp_imul 13 dX7_laid_12 rfl ?_
    refine wp_iload_n 14 dX7_laid_13 rfl rfl ?_
    refine wp_iadd 15 dX7_laid_14 rfl ?_
    exact wp_reti dX7_laid_15 rfl H

theorem cg_X7_laid {G : kG} {d : Nat} {Q : Int32 → kM → Prop}  {a1 : Int32} {a2 : Int32} {h : kM} (hd : 1 ≤ d)  (H :
    ((¬ a1 = a2 →
      Q (((64 : Int32) * (0 : Int32)) + a1) h
    ) ∧ (a1 = a2 →
      Q (((64 : Int32) * (2 : Int32)) + a1) h
    ))) : Cal G d m_X7_laid [.int a1, .int a2] h Q :=
  Cal.of [.int a1, .int a2] (by decide +kernel) (Nat.le_of_ble_eq_true rfl) rfl (sg_X7_laid_0 hd  H)

theorem sg_X7_namedKnot_0 {G : kG} {d : Nat} {Q : Int32 → kM → Prop}  {a1 : Int32} {h : kM} (hd : 1 ≤ d)  (H :
    Q (((10 : Int32) * (a1 / (3 : Int32))) + (a1 - a1 / (3 : Int32) * (3 : Int32))) h) : Wp G d m_X7_namedKnot (kEo G d m_X7_namedKnot Q) 0 [.int a1] [] h := by
  refine wp_bipush (10 : Int32) 2 dX7_namedKnot_0 kbipush_10 rfl ?_
  refine wp_iload_n 3 dX7_namedKnot_2 rfl rfl ?_
  refine wp_iconst (3 : Int32) 4 dX7_namedKnot_3 kiconst_3 rfl ?_
  refine wp_idiv 5 dX7_namedKnot_4 (by decide) rfl ?_
  refine wp_imul 6 dX7_namedKnot_5 rfl ?_
  refine wp_iload_n 7 dX7_namedKnot_6 rfl rfl ?_
  refine wp_iconst (3 : Int32) 8 dX7_namedKnot_7 kiconst_3 rfl ?_
  refine wp_irem 9 dX7_namedKnot_8 (by decide) rfl ?_
  refine wp_iadd 10 dX7_namedKnot_9 rfl ?_
  exact wp_reti dX7_namedKnot_10 rfl H

theorem cg_X7_namedKnot {G : kG} {d : Nat} {Q : Int32 → kM → Prop}  {a1 : Int32} {h : kM} (hd : 1 ≤ d)  (H :
    Q (((10 : Int32) * (a1 / (3 : Int32))) + (a1 - a1 / (3 : Int32) * (3 : Int32))) h) : Cal G d m_X7_namedKnot [.int a1] h Q :=
  Cal.of [.int a1] (by decide +kernel) (Nat.le_of_ble_eq_true rfl) rfl (sg_X7_namedKnot_0 hd  H)

theorem sg_X7_share_0 {G : kG} {d : Nat} {Q : Int32 → kM → Prop}  {a1 : Int32} {a2 : Int32} {h : kM} (hd : 1 ≤ d)  (H :
    ((¬ a2 = 0 →
      ((¬ a2 = 0 →
        ((¬ a1 = (2 : Int32) →
          ((¬ a1 = (0 : Int32) →
            Q (0 : Int32) h
          ) ∧ (a1 = (0 : Int32) →
            Q (-1 : Int32) h
          ))
        ) ∧ (a1 = (2 : Int32) →
          Q (1 : Int32) h
        ))
      ) ∧ (a2 = 0 →
        ((¬ a1 = (2 : Int32) →
          ((¬ a1 = (3 : Int32) →
            Q (0 : Int32) h
          ) ∧ (a1 = (3 : Int32) →
            Q (-1 : Int32) h
          ))
        ) ∧ (a1 = (2 : Int32) →
          Q (1 : Int32) h
        ))
      ))
    ) ∧ (a2 = 0 →
      ((¬ a2 = 0 →
        ((¬ a1 = (1 : Int32) →
          ((¬ a1 = (0 : Int32) →
            Q (0 : Int32) h
          ) ∧ (a1 = (0 : Int32) →
            Q (-1 : Int32) h
          ))
        ) ∧ (a1 = (1 : Int32) →
          Q (1 : Int32) h
        ))
      ) ∧ (a2 = 0 →
        ((¬ a1 = (1 : Int32) →
          ((¬ a1 = (3 : Int32) →
            Q (0 : Int32) h
          ) ∧ (a1 = (3 : Int32) →
            Q (-1 : Int32) h
          ))
        ) ∧ (a1 = (1 : Int32) →
          Q (1 : Int32) h
        ))
      ))
    ))) : Wp G d m_X7_share (kEo G d m_X7_share Q) 0 [.int a1, .int a2, .null, .null] [] h := by
  refine wp_iload_n 1 dX7_share_0 rfl rfl ?_
  refine wp_if_ne 8 4 dX7_share_1 rfl rfl ⟨fun c11 => ?_, fun c11 => ?_⟩
  · replace H := H.1 c11
    refine wp_iconst (2 : Int32) 9 dX7_share_8 kiconst_2 rfl ?_
    refine wp_istore_n 10 dX7_share_9 rfl (Nat.le_of_ble_eq_true rfl) rfl ?_
    refine wp_iload_n 11 dX7_share_10 rfl rfl ?_
    refine wp_if_ne 18 14 dX7_share_11 rfl rfl ⟨fun c5 => ?_, fun c5 => ?_⟩
    · replace H := H.1 c5
      refine wp_iconst (0 : Int32) 19 dX7_share_18 kiconst_0 rfl ?_
      refine wp_istore_n 20 dX7_share_19 rfl (Nat.le_of_ble_eq_true rfl) rfl ?_
      refine wp_iload_n 21 dX7_share_20 rfl rfl ?_
      refine wp_iload_n 22 dX7_share_21 rfl rfl ?_
      refine wp_icmp_ne 27 25 dX7_share_22 rfl rfl ⟨fun c2 => ?_, fun c2 => ?_⟩
      · replace H := H.1 c2
        refine wp_iload_n 28 dX7_share_27 rfl rfl ?_
        refine wp_iload_n 29 dX7_share_28 rfl rfl ?_
        refine wp_icmp_ne 36 32 dX7_share_29 rfl rfl ⟨fun c1 => ?_, fun c1 => ?_⟩
        · replace H := H.1 c1
          refine wp_iconst (0 : Int32) 37 dX7_share_36 kiconst_0 rfl ?_
          exact wp_reti dX7_share_37 rfl H
        · replace H := H.2 c1
          refine wp_iconst (-1 : Int32) 33 dX7_share_32 kiconst_m1 rfl ?_
          refine wp_goto 37 dX7_share_33 rfl ?_
          exact wp_reti dX7_share_37 rfl H
      · replace H := H.2 c2
        refine wp_iconst (1 : Int32) 26 dX7_share_25 kiconst_1 rfl ?_
        exact wp_reti dX7_share_26 rfl H
    · replace H := H.2 c5
      refine wp_iconst (3 : Int32) 15 dX7_share_14 kiconst_3 rfl ?_
      refine wp_goto 19 dX7_share_15 rfl ?_
      refine wp_istore_n 20 dX7_share_19 rfl (Nat.le_of_ble_eq_true rfl) rfl ?_
      refine wp_iload_n 21 dX7_share_20 rfl rfl ?_
      refine wp_iload_n 22 dX7_share_21 rfl rfl ?_
      refine wp_icmp_ne 27 25 dX7_share_22 rfl rfl ⟨fun c4 => ?_, fun c4 => ?_⟩
      · replace H := H.1 c4
        refine wp_iload_n 28 dX7_share_27 rfl rfl ?_
        refine wp_iload_n 29 dX7_share_28 rfl rfl ?_
        refine wp_icmp_ne 36 32 dX7_share_29 rfl rfl ⟨fun c3 => ?_, fun c3 => ?_⟩
        · replace H := H.1 c3
          refine wp_iconst (0 : Int32) 37 dX7_share_36 kiconst_0 rfl ?_
          exact wp_reti dX7_share_37 rfl H
        · replace H := H.2 c3
          refine wp_iconst (-1 : Int32) 33 dX7_share_32 kiconst_m1 rfl ?_
          refine wp_goto 37 dX7_share_33 rfl ?_
          exact wp_reti dX7_share_37 rfl H
      · replace H := H.2 c4
        refine wp_iconst (1 : Int32) 26 dX7_share_25 kiconst_1 rfl ?_
        exact wp_reti dX7_share_26 rfl H
  · replace H := H.2 c11
    refine wp_iconst (1 : Int32) 5 dX7_share_4 kiconst_1 rfl ?_
    refine wp_goto 9 dX7_share_5 rfl ?_
    refine wp_istore_n 10 dX7_share_9 rfl (Nat.le_of_ble_eq_true rfl) rfl ?_
    refine wp_iload_n 11 dX7_share_10 rfl rfl ?_
    refine wp_if_ne 18 14 dX7_share_11 rfl rfl ⟨fun c10 => ?_, fun c10 => ?_⟩
    · replace H := H.1 c10
      refine wp_iconst (0 : Int32) 19 dX7_share_18 kiconst_0 rfl ?_
      refine wp_istore_n 20 dX7_share_19 rfl (Nat.le_of_ble_eq_true rfl) rfl ?_
      refine wp_iload_n 21 dX7_share_20 rfl rfl ?_
      refine wp_iload_n 22 dX7_share_21 rfl rfl ?_
      refine wp_icmp_ne 27 25 dX7_share_22 rfl rfl ⟨fun c7 => ?_, fun c7 => ?_⟩
      · replace H := H.1 c7
        refine wp_iload_n 28 dX7_share_27 rfl rfl ?_
        refine wp_iload_n 29 dX7_share_28 rfl rfl ?_
        refine wp_icmp_ne 36 32 dX7_share_29 rfl rfl ⟨fun c6 => ?_, fun c6 => ?_⟩
        · replace H := H.1 c6
          refine wp_iconst (0 : Int32) 37 dX7_share_36 kiconst_0 rfl ?_
          exact wp_reti dX7_share_37 rfl H
        · replace H := H.2 c6
          refine wp_iconst (-1 : Int32) 33 dX7_share_32 kiconst_m1 rfl ?_
          refine wp_goto 37 dX7_share_33 rfl ?_
          exact wp_reti dX7_share_37 rfl H
      · replace H := H.2 c7
        refine wp_iconst (1 : Int32) 26 dX7_share_25 kiconst_1 rfl ?_
        exact wp_reti dX7_share_26 rfl H
    · replace H := H.2 c10
      refine wp_iconst (3 : Int32) 15 dX7_share_14 kiconst_3 rfl ?_
      refine wp_goto 19 dX7_share_15 rfl ?_
      refine wp_istore_n 20 dX7_share_19 rfl (Nat.le_of_ble_eq_true rfl) rfl ?_
      refine wp_iload_n 21 dX7_share_20 rfl rfl ?_
      refine wp_iload_n 22 dX7_share_21 rfl rfl ?_
      refine wp_icmp_ne 27 25 dX7_share_22 rfl rfl ⟨fun c9 => ?_, fun c9 => ?_⟩
      · replace H := H.1 c9
        refine wp_iload_n 28 dX7_share_27 rfl rfl ?_
        refine wp_iload_n 29 dX7_share_28 rfl rfl ?_
        refine wp_icmp_ne 36 32 dX7_share_29 rfl rfl ⟨fun c8 => ?_, fun c8 => ?_⟩
        · replace H := H.1 c8
          refine wp_iconst (0 : Int32) 37 dX7_share_36 kiconst_0 rfl ?_
          exact wp_reti dX7_share_37 rfl H
        · replace H := H.2 c8
          refine wp_iconst (-1 : Int32) 33 dX7_share_32 kiconst_m1 rfl ?_
          refine wp_goto 37 dX7_share_33 rfl ?_
          exact wp_reti dX7_share_37 rfl H
      · replace H := H.2 c9
        refine wp_iconst (1 : Int32) 26 dX7_share_25 kiconst_1 rfl ?_
        exact wp_reti dX7_share_26 rfl H

theorem cg_X7_share {G : kG} {d : Nat} {Q : Int32 → kM → Prop}  {a1 : Int32} {a2 : Int32} {h : kM} (hd : 1 ≤ d)  (H :
    ((¬ a2 = 0 →
      ((¬ a2 = 0 →
        ((¬ a1 = (2 : Int32) →
          ((¬ a1 = (0 : Int32) →
            Q (0 : Int32) h
          ) ∧ (a1 = (0 : Int32) →
            Q (-1 : Int32) h
          ))
        ) ∧ (a1 = (2 : Int32) →
          Q (1 : Int32) h
        ))
      ) ∧ (a2 = 0 →
        ((¬ a1 = (2 : Int32) →
          ((¬ a1 = (3 : Int32) →
            Q (0 : Int32) h
          ) ∧ (a1 = (3 : Int32) →
            Q (-1 : Int32) h
          ))
        ) ∧ (a1 = (2 : Int32) →
          Q (1 : Int32) h
        ))
      ))
    ) ∧ (a2 = 0 →
      ((¬ a2 = 0 →
        ((¬ a1 = (1 : Int32) →
          ((¬ a1 = (0 : Int32) →
            Q (0 : Int32) h
          ) ∧ (a1 = (0 : Int32) →
            Q (-1 : Int32) h
          ))
        ) ∧ (a1 = (1 : Int32) →
          Q (1 : Int32) h
        ))
      ) ∧ (a2 = 0 →
        ((¬ a1 = (1 : Int32) →
          ((¬ a1 = (3 : Int32) →
            Q (0 : Int32) h
          ) ∧ (a1 = (3 : Int32) →
            Q (-1 : Int32) h
          ))
        ) ∧ (a1 = (1 : Int32) →
          Q (1 : Int32) h
        ))
      ))
    ))) : Cal G d m_X7_share [.int a1, .int a2] h Q :=
  Cal.of [.int a1, .int a2, .null, .null] (by decide +kernel) (Nat.le_of_ble_eq_true rfl) rfl (sg_X7_share_0 hd  H)

theorem sg_X7_held_0 {G : kG} {d : Nat} {Q : Int32 → kM → Prop}  {a1 : Int32} {a2 : Int32} {a3 : Int32} {h : kM} (hd : 1 ≤ d)  (H :
    Q (if a2 < (if a1 < a3 then a1 else a3) then (if a1 < a3 then a1 else a3) else a2) h) : Wp G d m_X7_held (kEo G d m_X7_held Q) 0 [.int a1, .int a2, .int a3] [] h := by
  refine wp_iload_n 1 dX7_held_0 rfl rfl ?_
  refine wp_iload_n 2 dX7_held_1 rfl rfl ?_
  refine wp_iload_n 3 dX7_held_2 rfl rfl ?_
  refine wp_min 6 dX7_held_3 rfl mn_X7_288 (by omega) (Nat.le_of_ble_eq_true rfl) ?_
  refine wp_max 9 dX7_held_6 rfl mx_X7_293 (by omega) (Nat.le_of_ble_eq_true rfl) ?_
  exact wp_reti dX7_held_9 rfl H

theorem cg_X7_held {G : kG} {d : Nat} {Q : Int32 → kM → Prop}  {a1 : Int32} {a2 : Int32} {a3 : Int32} {h : kM} (hd : 1 ≤ d)  (H :
    Q (if a2 < (if a1 < a3 then a1 else a3) then (if a1 < a3 then a1 else a3) else a2) h) : Cal G d m_X7_held [.int a1, .int a2, .int a3] h Q :=
  Cal.of [.int a1, .int a2, .int a3] (by decide +kernel) (Nat.le_of_ble_eq_true rfl) rfl (sg_X7_held_0 hd  H)

theorem sg_X7_error_0 {G : kG} {d : Nat} {Q : Int32 → kM → Prop}  {a1 : Int32} {h : kM} (hd : 1 ≤ d)  (H :
    (vp_in a1 7) ∧
    (vp_in a1 7) ∧
    ∀ h3 : kM, h3 = kU h 87 (a1).toNatClampNeg ((h 87 (a1).toNatClampNeg) + (1 : Int32)) →
    Q ((-1000000000 : Int32) - a1) h3) : Wp G d m_X7_error (kEo G d m_X7_error Q) 0 [.ref 0, .int a1] [] h := by
  refine wp_aload_n 1 dX7_error_0 rfl rfl ?_
  refine wp_getR 87 87 4 dX7_error_1 rfl fl_X7_53 kd_0 rfl rfl rfl rfl ?_
  refine wp_iload_n 5 dX7_error_4 rfl rfl ?_
  refine wp_dup2 6 dX7_error_5 rfl rfl rfl ?_
  have c1 := H.1; replace H := H.2
  refine wp_iald 7 dX7_error_6 rfl kd_87 c1 ?_
  refine wp_iconst (1 : Int32) 8 dX7_error_7 kiconst_1 rfl ?_
  refine wp_iadd 9 dX7_error_8 rfl ?_
  have c2 := H.1; replace H := H.2
  refine wp_iast 10 dX7_error_9 rfl kd_87 c2 ?_
  refine wp_nm (fun h3 eh3 => ?_)
  replace H := H h3 eh3
  refine wp_ldcw (-1000000000 : Int32) 13 dX7_error_10 lc_X7_284 rfl ?_
  refine wp_iload_n 14 dX7_error_13 rfl rfl ?_
  refine wp_isub 15 dX7_error_14 rfl ?_
  exact wp_reti dX7_error_15 rfl H

theorem cg_X7_error {G : kG} {d : Nat} {Q : Int32 → kM → Prop}  {a1 : Int32} {h : kM} (hd : 1 ≤ d)  (H :
    (vp_in a1 7) ∧
    (vp_in a1 7) ∧
    ∀ h3 : kM, h3 = kU h 87 (a1).toNatClampNeg ((h 87 (a1).toNatClampNeg) + (1 : Int32)) →
    Q ((-1000000000 : Int32) - a1) h3) : Cal G d m_X7_error [.ref 0, .int a1] h Q :=
  Cal.of [.ref 0, .int a1] (by decide +kernel) (Nat.le_of_ble_eq_true rfl) rfl (sg_X7_error_0 hd  H)

theorem sp_X7_within (hd : 1 ≤ d) {x y : Int32} (k : Q (kb (0 ≤ x ∧ x < y)) h) : Cal G d m_X7_within [.int x, .int y] h Q :=
  cg_X7_within hd ⟨fun c => kq0 k (fun q => ltn c q.1), fun c => ⟨fun c2 => kq0 k (fun q => len c2 q.2), fun c2 => kq1 k ⟨nlt c, nle c2⟩⟩⟩
theorem sp_X7_between (hd : 1 ≤ d) {x y z : Int32} (k : Q (kb (y ≤ x ∧ x ≤ z)) h) : Cal G d m_X7_between [.int x, .int y, .int z] h Q :=
  cg_X7_between hd ⟨fun c => kq0 k (fun q => ltn c q.1), fun c => ⟨fun c2 => kq0 k (fun q => ltn c2 q.2), fun c2 => kq1 k ⟨nlt c, nlt c2⟩⟩⟩
theorem sp_X7_cellOf (hd : 1 ≤ d) {x : Int32} (k : Q (iR x 64) h) : Cal G d m_X7_cellOf [.int x] h Q := cg_X7_cellOf hd k
theorem sp_X7_stateOf (hd : 1 ≤ d) {x : Int32} (k : Q (x / 64) h) : Cal G d m_X7_stateOf [.int x] h Q := cg_X7_stateOf hd k
def kLaid (x y : Int32) : Int32 := 64 * (if x = y then 2 else 0) + x
theorem sp_X7_laid (hd : 1 ≤ d) {x y : Int32} (k : Q (kLaid x y) h) : Cal G d m_X7_laid [.int x, .int y] h Q := by
  unfold kLaid at k
  exact cg_X7_laid hd ⟨fun c => by rw [if_neg c] at k; exact k, fun c => by rw [if_pos c] at k; exact k⟩
theorem sp_X7_namedKnot (hd : 1 ≤ d) {x : Int32} (k : Q (10 * (x / 3) + iR x 3) h) : Cal G d m_X7_namedKnot [.int x] h Q := cg_X7_namedKnot hd k
/-- how often a force to a way counts to the east (0), or the south -/
def kShare (w x : Int32) : Int32 := if x = 0 then (if w = 1 then 1 else if w = 3 then -1 else 0) else (if w = 2 then 1 else if w = 0 then -1 else 0)
theorem sp_X7_share (hd : 1 ≤ d) {w x : Int32} (k : Q (kShare w x) h) : Cal G d m_X7_share [.int w, .int x] h Q := by
  unfold kShare at k
  apply cg_X7_share hd
  by_cases e : x = 0
  · subst e
    by_cases e1 : w = 1
    · subst e1; simpa using k
    · by_cases e3 : w = 3
      · subst e3; simpa using k
      · simp [e1, e3] at k ⊢
        exact k
  · by_cases e1 : w = 2
    · subst e1; simp [e] at k ⊢; exact k
    · by_cases e3 : w = 0
      · subst e3; simp [e] at k ⊢; exact k
      · simp [e, e1, e3] at k ⊢
        exact k
def kHeld (v l m : Int32) : Int32 := if l < (if v < m then v else m) then (if v < m then v else m) else l
theorem sp_X7_held (hd : 1 ≤ d) {v l m : Int32} (k : Q (kHeld v l m) h) : Cal G d m_X7_held [.int v, .int l, .int m] h Q := cg_X7_held hd k
/-- an error's count -/
def kErr (h : kM) (c : Nat) (e : Int32) : kM := kU h c e.toNatClampNeg (h c e.toNatClampNeg + 1)
theorem sp_X7_error (hd : 1 ≤ d) {e : Int32} (he : vp_in e 7) (k : ∀ h1, h1 = kErr h 87 e → Q (-1000000000 - e) h1) : Cal G d m_X7_error [.ref 0, .int e] h Q := by
  apply cg_X7_error hd
  refine ⟨he, he, ?_⟩
  intro h1 e1
  exact k h1 e1
abbrev kDay (x : Int32) : Prop := 6 ≤ iR x 24 ∧ iR x 24 ≤ 17
theorem sg_X7_isDay_0 {G : kG} {d : Nat} {Q : Int32 → kM → Prop}  {a1 : Int32} {h : kM} (hd : 2 ≤ d)  (H :
    Q (kb ((6 : Int32) ≤ (a1 - a1 / (24 : Int32) * (24 : Int32)) ∧ (a1 - a1 / (24 : Int32) * (24 : Int32)) ≤ (17 : Int32))) h) : Wp G d m_X7_isDay (kEo G d m_X7_isDay Q) 0 [.int a1] [] h := by
  refine wp_iload_n 1 dX7_isDay_0 rfl rfl ?_
  refine wp_bipush (24 : Int32) 3 dX7_isDay_1 kbipush_24 rfl ?_
  refine wp_irem 4 dX7_isDay_3 (by decide) rfl ?_
  refine wp_bipush (6 : Int32) 6 dX7_isDay_4 kbipush_6 rfl ?_
  refine wp_bipush (17 : Int32) 8 dX7_isDay_6 kbipush_17 rfl ?_
  refine wp_cS (d - 1) 3 [.int (a1 - a1 / (24 : Int32) * (24 : Int32)), .int (6 : Int32), .int (17 : Int32)] [] 11 dX7_isDay_8 rfl (lk_X7_69 rfl) (by omega) rfl rfl (Nat.le_of_ble_eq_true rfl) (sp_X7_between (by omega)  ?_)
  exact wp_retz dX7_isDay_11 rfl (kb_01 _) H

theorem cg_X7_isDay {G : kG} {d : Nat} {Q : Int32 → kM → Prop}  {a1 : Int32} {h : kM} (hd : 2 ≤ d)  (H :
    Q (kb ((6 : Int32) ≤ (a1 - a1 / (24 : Int32) * (24 : Int32)) ∧ (a1 - a1 / (24 : Int32) * (24 : Int32)) ≤ (17 : Int32))) h) : Cal G d m_X7_isDay [.int a1] h Q :=
  Cal.of [.int a1] (by decide +kernel) (Nat.le_of_ble_eq_true rfl) rfl (sg_X7_isDay_0 hd  H)

theorem sg_X7_isShip_0 {G : kG} {d : Nat} {Q : Int32 → kM → Prop}  {a1 : Int32} {h : kM} (hd : 2 ≤ d)  (H :
    Q (kb (0 ≤ a1 ∧ a1 < (h 1 12))) h) : Wp G d m_X7_isShip (kEo G d m_X7_isShip Q) 0 [.ref 0, .int a1] [] h := by
  refine wp_iload_n 1 dX7_isShip_0 rfl rfl ?_
  refine wp_aload_n 2 dX7_isShip_1 rfl rfl ?_
  refine wp_getR 1 1 5 dX7_isShip_2 rfl fl_X7_12 kd_0 rfl rfl rfl rfl ?_
  refine wp_getI 8 dX7_isShip_5 rfl fl_X7_76 kd_1 rfl ?_
  refine wp_cS (d - 1) 2 [.int a1, .int (h 1 12)] [] 11 dX7_isShip_8 rfl (lk_X7_58 rfl) (by omega) rfl rfl (Nat.le_of_ble_eq_true rfl) (sp_X7_within (by omega)  ?_)
  exact wp_retz dX7_isShip_11 rfl (kb_01 _) H

theorem cg_X7_isShip {G : kG} {d : Nat} {Q : Int32 → kM → Prop}  {a1 : Int32} {h : kM} (hd : 2 ≤ d)  (H :
    Q (kb (0 ≤ a1 ∧ a1 < (h 1 12))) h) : Cal G d m_X7_isShip [.ref 0, .int a1] h Q :=
  Cal.of [.ref 0, .int a1] (by decide +kernel) (Nat.le_of_ble_eq_true rfl) rfl (sg_X7_isShip_0 hd  H)

theorem sp_X7_isDay (hd : 2 ≤ d) {x : Int32} (k : Q (kb (kDay x)) h) : Cal G d m_X7_isDay [.int x] h Q := cg_X7_isDay hd k
theorem sp_X7_isShip (hd : 2 ≤ d) {x : Int32} (k : Q (kb (0 ≤ x ∧ x < h 1 12)) h) : Cal G d m_X7_isShip [.ref 0, .int x] h Q := cg_X7_isShip hd k
theorem sg_X7_isKnot_0 {G : kG} {d : Nat} {Q : Int32 → kM → Prop}  {a1 : Int32} {a2 : Int32} {h : kM} (hd : 3 ≤ d)  (H :
    (((kb (0 ≤ a1 ∧ a1 < h 1 12)) = 0 →
      Q (0 : Int32) h
    ) ∧ (¬ ((kb (0 ≤ a1 ∧ a1 < h 1 12)) = 0) →
      (((kb (0 ≤ a2 ∧ a2 < (3 : Int32))) = 0 →
        Q (0 : Int32) h
      ) ∧ (¬ ((kb (0 ≤ a2 ∧ a2 < (3 : Int32))) = 0) →
        Q (1 : Int32) h
      ))
    ))) : Wp G d m_X7_isKnot (kEo G d m_X7_isKnot Q) 0 [.ref 0, .int a1, .int a2] [] h := by
  refine wp_aload_n 1 dX7_isKnot_0 rfl rfl ?_
  refine wp_iload_n 2 dX7_isKnot_1 rfl rfl ?_
  refine wp_cV (d - 1) 1 [.int a1] [] 5 dX7_isKnot_2 rfl (lk_X7_84 rfl) (by omega) kd_0 rfl rfl rfl (Nat.le_of_ble_eq_true rfl) (sp_X7_isShip (by omega)  ?_)
  refine wp_if_eq 20 8 dX7_isKnot_5 rfl rfl ⟨fun c2 => ?_, fun c2 => ?_⟩
  · replace H := H.1 c2
    refine wp_iconst (0 : Int32) 21 dX7_isKnot_20 kiconst_0 rfl ?_
    exact wp_retz dX7_isKnot_21 rfl (Or.inl rfl) H
  · replace H := H.2 c2
    refine wp_iload_n 9 dX7_isKnot_8 rfl rfl ?_
    refine wp_iconst (3 : Int32) 10 dX7_isKnot_9 kiconst_3 rfl ?_
    refine wp_cS (d - 1) 2 [.int a2, .int (3 : Int32)] [] 13 dX7_isKnot_10 rfl (lk_X7_58 rfl) (by omega) rfl rfl (Nat.le_of_ble_eq_true rfl) (sp_X7_within (by omega)  ?_)
    refine wp_if_eq 20 16 dX7_isKnot_13 rfl rfl ⟨fun c1 => ?_, fun c1 => ?_⟩
    · replace H := H.1 c1
      refine wp_iconst (0 : Int32) 21 dX7_isKnot_20 kiconst_0 rfl ?_
      exact wp_retz dX7_isKnot_21 rfl (Or.inl rfl) H
    · replace H := H.2 c1
      refine wp_iconst (1 : Int32) 17 dX7_isKnot_16 kiconst_1 rfl ?_
      refine wp_goto 21 dX7_isKnot_17 rfl ?_
      exact wp_retz dX7_isKnot_21 rfl (Or.inr rfl) H

theorem cg_X7_isKnot {G : kG} {d : Nat} {Q : Int32 → kM → Prop}  {a1 : Int32} {a2 : Int32} {h : kM} (hd : 3 ≤ d)  (H :
    (((kb (0 ≤ a1 ∧ a1 < h 1 12)) = 0 →
      Q (0 : Int32) h
    ) ∧ (¬ ((kb (0 ≤ a1 ∧ a1 < h 1 12)) = 0) →
      (((kb (0 ≤ a2 ∧ a2 < (3 : Int32))) = 0 →
        Q (0 : Int32) h
      ) ∧ (¬ ((kb (0 ≤ a2 ∧ a2 < (3 : Int32))) = 0) →
        Q (1 : Int32) h
      ))
    ))) : Cal G d m_X7_isKnot [.ref 0, .int a1, .int a2] h Q :=
  Cal.of [.ref 0, .int a1, .int a2] (by decide +kernel) (Nat.le_of_ble_eq_true rfl) rfl (sg_X7_isKnot_0 hd  H)

theorem sp_X7_isKnot (hd : 3 ≤ d) {x y : Int32} (k : Q (kb ((0 ≤ x ∧ x < h 1 12) ∧ (0 ≤ y ∧ y < 3))) h) : Cal G d m_X7_isKnot [.ref 0, .int x, .int y] h Q :=
  cg_X7_isKnot hd ⟨fun c => kq0 k (fun q => kb_0.mp c q.1), fun c => ⟨fun c2 => kq0 k (fun q => kb_0.mp c2 q.2), fun c2 => kq1 k ⟨kb_n0.mp c, kb_n0.mp c2⟩⟩⟩
theorem sg_X6_isThere_0 {G : kG} {d : Nat} {Q : Int32 → kM → Prop} {t : Nat}  {h : kM} (hd : 1 ≤ d) (k_t : kTxt t) (H :
    (((h t 2) ≤ 0 →
      Q (0 : Int32) h
    ) ∧ (¬ ((h t 2) ≤ 0) →
      Q (1 : Int32) h
    ))) : Wp G d m_X6_isThere (kEo G d m_X6_isThere Q) 0 [.ref t] [] h := by
  refine wp_aload_n 1 dX6_isThere_0 rfl rfl ?_
  refine wp_getI 4 dX6_isThere_1 rfl fl_X6_18 (kTxt_0 k_t) rfl ?_
  refine wp_if_le 11 7 dX6_isThere_4 rfl rfl ⟨fun c1 => ?_, fun c1 => ?_⟩
  · replace H := H.1 c1
    refine wp_iconst (0 : Int32) 12 dX6_isThere_11 kiconst_0 rfl ?_
    exact wp_retz dX6_isThere_12 rfl (Or.inl rfl) H
  · replace H := H.2 c1
    refine wp_iconst (1 : Int32) 8 dX6_isThere_7 kiconst_1 rfl ?_
    refine wp_goto 12 dX6_isThere_8 rfl ?_
    exact wp_retz dX6_isThere_12 rfl (Or.inr rfl) H

theorem cg_X6_isThere {G : kG} {d : Nat} {Q : Int32 → kM → Prop} {t : Nat}  {h : kM} (hd : 1 ≤ d) (k_t : kTxt t) (H :
    (((h t 2) ≤ 0 →
      Q (0 : Int32) h
    ) ∧ (¬ ((h t 2) ≤ 0) →
      Q (1 : Int32) h
    ))) : Cal G d m_X6_isThere [.ref t] h Q :=
  Cal.of [.ref t] (by decide +kernel) (Nat.le_of_ble_eq_true rfl) rfl (sg_X6_isThere_0 hd k_t H)

theorem sg_X6_clear_0 {G : kG} {d : Nat} {Q : Int32 → kM → Prop} {t : Nat}  {h : kM} (hd : 1 ≤ d) (k_t : kTxt t) (H :
    ∀ h1 : kM, h1 = kU h t 2 (0 : Int32) →
    Q 0 h1) : Wp G d m_X6_clear (kEo G d m_X6_clear Q) 0 [.ref t] [] h := by
  refine wp_aload_n 1 dX6_clear_0 rfl rfl ?_
  refine wp_iconst (0 : Int32) 2 dX6_clear_1 kiconst_0 rfl ?_
  refine wp_putI 5 dX6_clear_2 rfl fl_X6_18 fin_6_2 (kTxt_0 k_t) rfl ?_
  refine wp_nm (fun h1 eh1 => ?_)
  replace H := H h1 eh1
  exact wp_retv dX6_clear_5 rfl H

theorem cg_X6_clear {G : kG} {d : Nat} {Q : Int32 → kM → Prop} {t : Nat}  {h : kM} (hd : 1 ≤ d) (k_t : kTxt t) (H :
    ∀ h1 : kM, h1 = kU h t 2 (0 : Int32) →
    Q 0 h1) : Cal G d m_X6_clear [.ref t] h Q :=
  Cal.of [.ref t] (by decide +kernel) (Nat.le_of_ble_eq_true rfl) rfl (sg_X6_clear_0 hd k_t H)

theorem sg_X6_become_0 {G : kG} {d : Nat} {Q : Int32 → kM → Prop} {t : Nat} {t2 : Nat}  {h : kM} (hd : 2 ≤ d) (k_t : kTxt t) (k_t2 : kTxt t2) (H :
    ∀ h1 : kM, h1 = kCp h (t2 + 1) (t + 1) 0 0 60 →
    ∀ h2 : kM, h2 = kU h1 t 2 (h1 t2 2) →
    Q 0 h2) : Wp G d m_X6_become (kEo G d m_X6_become Q) 0 [.ref t, .ref t2] [] h := by
  refine wp_aload_n 1 dX6_become_0 rfl rfl ?_
  refine wp_getR 1 (t2 + 1) 4 dX6_become_1 rfl fl_X6_9 (kTxt_0 k_t2) rfl rfl rfl rfl ?_
  refine wp_iconst (0 : Int32) 5 dX6_become_4 kiconst_0 rfl ?_
  refine wp_aload_n 6 dX6_become_5 rfl rfl ?_
  refine wp_getR 1 (t + 1) 9 dX6_become_6 rfl fl_X6_9 (kTxt_0 k_t) rfl rfl rfl rfl ?_
  refine wp_iconst (0 : Int32) 10 dX6_become_9 kiconst_0 rfl ?_
  refine wp_bipush (60 : Int32) 12 dX6_become_10 kbipush_60 rfl ?_
  refine wp_copy 15 dX6_become_12 rfl ac_X6_22 (by omega) (Nat.le_of_ble_eq_true rfl) (kTxt_1 k_t2) (kTxt_1 k_t) (by decide) (by decide) (by decide) (by decide) (by decide) ?_
  refine wp_nm (fun h1 eh1 => ?_)
  replace H := H h1 eh1
  refine wp_aload_n 16 dX6_become_15 rfl rfl ?_
  refine wp_aload_n 17 dX6_become_16 rfl rfl ?_
  refine wp_getI 20 dX6_become_17 rfl fl_X6_18 (kTxt_0 k_t2) rfl ?_
  refine wp_putI 23 dX6_become_20 rfl fl_X6_18 fin_6_2 (kTxt_0 k_t) rfl ?_
  refine wp_nm (fun h2 eh2 => ?_)
  replace H := H h2 eh2
  exact wp_retv dX6_become_23 rfl H

theorem cg_X6_become {G : kG} {d : Nat} {Q : Int32 → kM → Prop} {t : Nat} {t2 : Nat}  {h : kM} (hd : 2 ≤ d) (k_t : kTxt t) (k_t2 : kTxt t2) (H :
    ∀ h1 : kM, h1 = kCp h (t2 + 1) (t + 1) 0 0 60 →
    ∀ h2 : kM, h2 = kU h1 t 2 (h1 t2 2) →
    Q 0 h2) : Cal G d m_X6_become [.ref t, .ref t2] h Q :=
  Cal.of [.ref t, .ref t2] (by decide +kernel) (Nat.le_of_ble_eq_true rfl) rfl (sg_X6_become_0 hd k_t k_t2 H)

theorem sg_X6_operand_0 {G : kG} {d : Nat} {Q : Int32 → kM → Prop}  {a1 : Int32} {a2 : Int32} {a3 : Int32} {a4 : Int32} {h : kM} (hd : 1 ≤ d)  (H :
    (((a1 - (10000 : Int32)) = (0 : Int32) →
      Q a2 h
    ) ∧ (¬ (a1 - (10000 : Int32)) = (0 : Int32) →
    (((a1 - (10000 : Int32)) = (1 : Int32) →
      Q a3 h
    ) ∧ (¬ (a1 - (10000 : Int32)) = (1 : Int32) →
    (((a1 - (10000 : Int32)) = (2 : Int32) →
      Q a4 h
    ) ∧ (¬ (a1 - (10000 : Int32)) = (2 : Int32) →
      Q a1 h
    ))))))) : Wp G d m_X6_operand (kEo G d m_X6_operand Q) 0 [.int a1, .int a2, .int a3, .int a4] [] h := by
  refine wp_iload_n 1 dX6_operand_0 rfl rfl ?_
  refine wp_sipush (10000 : Int32) 4 dX6_operand_1 ksipush_10000 rfl ?_
  refine wp_isub 5 dX6_operand_4 rfl ?_
  refine wp_table 38 [((0 : Int32), 32), ((1 : Int32), 34), ((2 : Int32), 36)] dX6_operand_5 rfl (by decide) ?_
  refine ⟨fun c1 => ?_, fun c1 => ?_⟩
  · replace H := H.1 c1
    refine wp_iload_n 33 dX6_operand_32 rfl rfl ?_
    exact wp_reti dX6_operand_33 rfl H
  · replace H := H.2 c1
    refine ⟨fun c2 => ?_, fun c2 => ?_⟩
    · replace H := H.1 c2
      refine wp_iload_n 35 dX6_operand_34 rfl rfl ?_
      exact wp_reti dX6_operand_35 rfl H
    · replace H := H.2 c2
      refine ⟨fun c3 => ?_, fun c3 => ?_⟩
      · replace H := H.1 c3
        refine wp_iload_n 37 dX6_operand_36 rfl rfl ?_
        exact wp_reti dX6_operand_37 rfl H
      · replace H := H.2 c3
        show Wp _ _ _ _ _ _ _ _
        refine wp_iload_n 39 dX6_operand_38 rfl rfl ?_
        exact wp_reti dX6_operand_39 rfl H

theorem cg_X6_operand {G : kG} {d : Nat} {Q : Int32 → kM → Prop}  {a1 : Int32} {a2 : Int32} {a3 : Int32} {a4 : Int32} {h : kM} (hd : 1 ≤ d)  (H :
    (((a1 - (10000 : Int32)) = (0 : Int32) →
      Q a2 h
    ) ∧ (¬ (a1 - (10000 : Int32)) = (0 : Int32) →
    (((a1 - (10000 : Int32)) = (1 : Int32) →
      Q a3 h
    ) ∧ (¬ (a1 - (10000 : Int32)) = (1 : Int32) →
    (((a1 - (10000 : Int32)) = (2 : Int32) →
      Q a4 h
    ) ∧ (¬ (a1 - (10000 : Int32)) = (2 : Int32) →
      Q a1 h
    ))))))) : Cal G d m_X6_operand [.int a1, .int a2, .int a3, .int a4] h Q :=
  Cal.of [.int a1, .int a2, .int a3, .int a4] (by decide +kernel) (Nat.le_of_ble_eq_true rfl) rfl (sg_X6_operand_0 hd  H)

theorem sg_X6_joined_0 {G : kG} {d : Nat} {Q : Int32 → kM → Prop}  {a1 : Int32} {a2 : Int32} {a3 : Int32} {h : kM} (hd : 1 ≤ d)  (H :
    ((a1 = (38 : Int32) →
      ((a2 = 0 →
        Q (0 : Int32) h
      ) ∧ (¬ (a2 = 0) →
        ((a3 = 0 →
          Q (0 : Int32) h
        ) ∧ (¬ (a3 = 0) →
          Q (1 : Int32) h
        ))
      ))
    ) ∧ (¬ a1 = (38 : Int32) →
    ((a1 = (42 : Int32) →
      Q (a2 * a3) h
    ) ∧ (¬ a1 = (42 : Int32) →
    ((a1 = (43 : Int32) →
      Q (a2 + a3) h
    ) ∧ (¬ a1 = (43 : Int32) →
    ((a1 = (45 : Int32) →
      Q (a2 - a3) h
    ) ∧ (¬ a1 = (45 : Int32) →
    ((a1 = (47 : Int32) →
      ((¬ a3 = 0 →
        (¬ a3 = 0) ∧
        Q (a2 / a3) h
      ) ∧ (a3 = 0 →
        Q (0 : Int32) h
      ))
    ) ∧ (¬ a1 = (47 : Int32) →
    ((a1 = (60 : Int32) →
      ((a3 ≤ a2 →
        Q (0 : Int32) h
      ) ∧ (¬ (a3 ≤ a2) →
        Q (1 : Int32) h
      ))
    ) ∧ (¬ a1 = (60 : Int32) →
    ((a1 = (61 : Int32) →
      ((¬ a2 = a3 →
        Q (0 : Int32) h
      ) ∧ (a2 = a3 →
        Q (1 : Int32) h
      ))
    ) ∧ (¬ a1 = (61 : Int32) →
    ((a1 = (62 : Int32) →
      ((a2 ≤ a3 →
        Q (0 : Int32) h
      ) ∧ (¬ (a2 ≤ a3) →
        Q (1 : Int32) h
      ))
    ) ∧ (¬ a1 = (62 : Int32) →
    ((a1 = (124 : Int32) →
      ((¬ a2 = 0 →
        Q (1 : Int32) h
      ) ∧ (a2 = 0 →
        ((a3 = 0 →
          Q (0 : Int32) h
        ) ∧ (¬ (a3 = 0) →
          Q (1 : Int32) h
        ))
      ))
    ) ∧ (¬ a1 = (124 : Int32) →
      ((¬ a3 = 0 →
        (¬ a3 = 0) ∧
        Q (a2 - a2 / a3 * a3) h
      ) ∧ (a3 = 0 →
        Q (0 : Int32) h
      ))
    ))))))))))))))))))) : Wp G d m_X6_joined (kEo G d m_X6_joined Q) 0 [.int a1, .int a2, .int a3] [] h := by
  refine wp_iload_n 1 dX6_joined_0 rfl rfl ?_
  refine wp_lookup 169 [((38 : Int32), 98), ((42 : Int32), 153), ((43 : Int32), 145), ((45 : Int32), 149), ((47 : Int32), 157), ((60 : Int32), 112), ((61 : Int32), 123), ((62 : Int32), 134), ((124 : Int32), 84)] dX6_joined_1 (by decide) rfl (by decide) ?_
  refine ⟨fun c3 => ?_, fun c3 => ?_⟩
  · replace H := H.1 c3
    refine wp_iload_n 99 dX6_joined_98 rfl rfl ?_
    refine wp_if_eq 110 102 dX6_joined_99 rfl rfl ⟨fun c2 => ?_, fun c2 => ?_⟩
    · replace H := H.1 c2
      refine wp_iconst (0 : Int32) 111 dX6_joined_110 kiconst_0 rfl ?_
      exact wp_reti dX6_joined_111 rfl H
    · replace H := H.2 c2
      refine wp_iload_n 103 dX6_joined_102 rfl rfl ?_
      refine wp_if_eq 110 106 dX6_joined_103 rfl rfl ⟨fun c1 => ?_, fun c1 => ?_⟩
      · replace H := H.1 c1
        refine wp_iconst (0 : Int32) 111 dX6_joined_110 kiconst_0 rfl ?_
        exact wp_reti dX6_joined_111 rfl H
      · replace H := H.2 c1
        refine wp_iconst (1 : Int32) 107 dX6_joined_106 kiconst_1 rfl ?_
        refine wp_goto 111 dX6_joined_107 rfl ?_
        exact wp_reti dX6_joined_111 rfl H
  · replace H := H.2 c3
    refine ⟨fun c4 => ?_, fun c4 => ?_⟩
    · replace H := H.1 c4
      refine wp_iload_n 154 dX6_joined_153 rfl rfl ?_
      refine wp_iload_n 155 dX6_joined_154 rfl rfl ?_
      refine wp_imul 156 dX6_joined_155 rfl ?_
      exact wp_reti dX6_joined_156 rfl H
    · replace H := H.2 c4
      refine ⟨fun c5 => ?_, fun c5 => ?_⟩
      · replace H := H.1 c5
        refine wp_iload_n 146 dX6_joined_145 rfl rfl ?_
        refine wp_iload_n 147 dX6_joined_146 rfl rfl ?_
        refine wp_iadd 148 dX6_joined_147 rfl ?_
        exact wp_reti dX6_joined_148 rfl H
      · replace H := H.2 c5
        refine ⟨fun c6 => ?_, fun c6 => ?_⟩
        · replace H := H.1 c6
          refine wp_iload_n 150 dX6_joined_149 rfl rfl ?_
          refine wp_iload_n 151 dX6_joined_150 rfl rfl ?_
          refine wp_isub 152 dX6_joined_151 rfl ?_
          exact wp_reti dX6_joined_152 rfl H
        · replace H := H.2 c6
          refine ⟨fun c9 => ?_, fun c9 => ?_⟩
          · replace H := H.1 c9
            refine wp_iload_n 158 dX6_joined_157 rfl rfl ?_
            refine wp_if_ne 165 161 dX6_joined_158 rfl rfl ⟨fun c8 => ?_, fun c8 => ?_⟩
            · replace H := H.1 c8
              refine wp_iload_n 166 dX6_joined_165 rfl rfl ?_
              refine wp_iload_n 167 dX6_joined_166 rfl rfl ?_
              have c7 := H.1; replace H := H.2
              refine wp_idiv 168 dX6_joined_167 c7 rfl ?_
              exact wp_reti dX6_joined_168 rfl H
            · replace H := H.2 c8
              refine wp_iconst (0 : Int32) 162 dX6_joined_161 kiconst_0 rfl ?_
              refine wp_goto 168 dX6_joined_162 rfl ?_
              exact wp_reti dX6_joined_168 rfl H
          · replace H := H.2 c9
            refine ⟨fun c11 => ?_, fun c11 => ?_⟩
            · replace H := H.1 c11
              refine wp_iload_n 113 dX6_joined_112 rfl rfl ?_
              refine wp_iload_n 114 dX6_joined_113 rfl rfl ?_
              refine wp_icmp_ge 121 117 dX6_joined_114 rfl rfl ⟨fun c10 => ?_, fun c10 => ?_⟩
              · replace H := H.1 c10
                refine wp_iconst (0 : Int32) 122 dX6_joined_121 kiconst_0 rfl ?_
                exact wp_reti dX6_joined_122 rfl H
              · replace H := H.2 c10
                refine wp_iconst (1 : Int32) 118 dX6_joined_117 kiconst_1 rfl ?_
                refine wp_goto 122 dX6_joined_118 rfl ?_
                exact wp_reti dX6_joined_122 rfl H
            · replace H := H.2 c11
              refine ⟨fun c13 => ?_, fun c13 => ?_⟩
              · replace H := H.1 c13
                refine wp_iload_n 124 dX6_joined_123 rfl rfl ?_
                refine wp_iload_n 125 dX6_joined_124 rfl rfl ?_
                refine wp_icmp_ne 132 128 dX6_joined_125 rfl rfl ⟨fun c12 => ?_, fun c12 => ?_⟩
                · replace H := H.1 c12
                  refine wp_iconst (0 : Int32) 133 dX6_joined_132 kiconst_0 rfl ?_
                  exact wp_reti dX6_joined_133 rfl H
                · replace H := H.2 c12
                  refine wp_iconst (1 : Int32) 129 dX6_joined_128 kiconst_1 rfl ?_
                  refine wp_goto 133 dX6_joined_129 rfl ?_
                  exact wp_reti dX6_joined_133 rfl H
              · replace H := H.2 c13
                refine ⟨fun c15 => ?_, fun c15 => ?_⟩
                · replace H := H.1 c15
                  refine wp_iload_n 135 dX6_joined_134 rfl rfl ?_
                  refine wp_iload_n 136 dX6_joined_135 rfl rfl ?_
                  refine wp_icmp_le 143 139 dX6_joined_136 rfl rfl ⟨fun c14 => ?_, fun c14 => ?_⟩
                  · replace H := H.1 c14
                    refine wp_iconst (0 : Int32) 144 dX6_joined_143 kiconst_0 rfl ?_
                    exact wp_reti dX6_joined_144 rfl H
                  · replace H := H.2 c14
                    refine wp_iconst (1 : Int32) 140 dX6_joined_139 kiconst_1 rfl ?_
                    refine wp_goto 144 dX6_joined_140 rfl ?_
                    exact wp_reti dX6_joined_144 rfl H
                · replace H := H.2 c15
                  refine ⟨fun c18 => ?_, fun c18 => ?_⟩
                  · replace H := H.1 c18
                    refine wp_iload_n 85 dX6_joined_84 rfl rfl ?_
                    refine wp_if_ne 92 88 dX6_joined_85 rfl rfl ⟨fun c17 => ?_, fun c17 => ?_⟩
                    · replace H := H.1 c17
                      refine wp_iconst (1 : Int32) 93 dX6_joined_92 kiconst_1 rfl ?_
                      refine wp_goto 97 dX6_joined_93 rfl ?_
                      exact wp_reti dX6_joined_97 rfl H
                    · replace H := H.2 c17
                      refine wp_iload_n 89 dX6_joined_88 rfl rfl ?_
                      refine wp_if_eq 96 92 dX6_joined_89 rfl rfl ⟨fun c16 => ?_, fun c16 => ?_⟩
                      · replace H := H.1 c16
                        refine wp_iconst (0 : Int32) 97 dX6_joined_96 kiconst_0 rfl ?_
                        exact wp_reti dX6_joined_97 rfl H
                      · replace H := H.2 c16
                        refine wp_iconst (1 : Int32) 93 dX6_joined_92 kiconst_1 rfl ?_
                        refine wp_goto 97 dX6_joined_93 rfl ?_
                        exact wp_reti dX6_joined_97 rfl H
                  · replace H := H.2 c18
                    show Wp _ _ _ _ _ _ _ _
                    refine wp_iload_n 170 dX6_joined_169 rfl rfl ?_
                    refine wp_if_ne 177 173 dX6_joined_170 rfl rfl ⟨fun c20 => ?_, fun c20 => ?_⟩
                    · replace H := H.1 c20
                      refine wp_iload_n 178 dX6_joined_177 rfl rfl ?_
                      refine wp_iload_n 179 dX6_joined_178 rfl rfl ?_
                      have c19 := H.1; replace H := H.2
                      refine wp_irem 180 dX6_joined_179 c19 rfl ?_
                      exact wp_reti dX6_joined_180 rfl H
                    · replace H := H.2 c20
                      refine wp_iconst (0 : Int32) 174 dX6_joined_173 kiconst_0 rfl ?_
                      refine wp_goto 180 dX6_joined_174 rfl ?_
                      exact wp_reti dX6_joined_180 rfl H

theorem cg_X6_joined {G : kG} {d : Nat} {Q : Int32 → kM → Prop}  {a1 : Int32} {a2 : Int32} {a3 : Int32} {h : kM} (hd : 1 ≤ d)  (H :
    ((a1 = (38 : Int32) →
      ((a2 = 0 →
        Q (0 : Int32) h
      ) ∧ (¬ (a2 = 0) →
        ((a3 = 0 →
          Q (0 : Int32) h
        ) ∧ (¬ (a3 = 0) →
          Q (1 : Int32) h
        ))
      ))
    ) ∧ (¬ a1 = (38 : Int32) →
    ((a1 = (42 : Int32) →
      Q (a2 * a3) h
    ) ∧ (¬ a1 = (42 : Int32) →
    ((a1 = (43 : Int32) →
      Q (a2 + a3) h
    ) ∧ (¬ a1 = (43 : Int32) →
    ((a1 = (45 : Int32) →
      Q (a2 - a3) h
    ) ∧ (¬ a1 = (45 : Int32) →
    ((a1 = (47 : Int32) →
      ((¬ a3 = 0 →
        (¬ a3 = 0) ∧
        Q (a2 / a3) h
      ) ∧ (a3 = 0 →
        Q (0 : Int32) h
      ))
    ) ∧ (¬ a1 = (47 : Int32) →
    ((a1 = (60 : Int32) →
      ((a3 ≤ a2 →
        Q (0 : Int32) h
      ) ∧ (¬ (a3 ≤ a2) →
        Q (1 : Int32) h
      ))
    ) ∧ (¬ a1 = (60 : Int32) →
    ((a1 = (61 : Int32) →
      ((¬ a2 = a3 →
        Q (0 : Int32) h
      ) ∧ (a2 = a3 →
        Q (1 : Int32) h
      ))
    ) ∧ (¬ a1 = (61 : Int32) →
    ((a1 = (62 : Int32) →
      ((a2 ≤ a3 →
        Q (0 : Int32) h
      ) ∧ (¬ (a2 ≤ a3) →
        Q (1 : Int32) h
      ))
    ) ∧ (¬ a1 = (62 : Int32) →
    ((a1 = (124 : Int32) →
      ((¬ a2 = 0 →
        Q (1 : Int32) h
      ) ∧ (a2 = 0 →
        ((a3 = 0 →
          Q (0 : Int32) h
        ) ∧ (¬ (a3 = 0) →
          Q (1 : Int32) h
        ))
      ))
    ) ∧ (¬ a1 = (124 : Int32) →
      ((¬ a3 = 0 →
        (¬ a3 = 0) ∧
        Q (a2 - a2 / a3 * a3) h
      ) ∧ (a3 = 0 →
        Q (0 : Int32) h
      ))
    ))))))))))))))))))) : Cal G d m_X6_joined [.int a1, .int a2, .int a3] h Q :=
  Cal.of [.int a1, .int a2, .int a3] (by decide +kernel) (Nat.le_of_ble_eq_true rfl) rfl (sg_X6_joined_0 hd  H)

theorem sg_X4_isThere_0 {G : kG} {d : Nat} {Q : Int32 → kM → Prop} {q : Nat}  {h : kM} (hd : 1 ≤ d) (k_q : kSht q) (H :
    (((h q 1) = 0 →
      Q (0 : Int32) h
    ) ∧ (¬ ((h q 1) = 0) →
      Q (1 : Int32) h
    ))) : Wp G d m_X4_isThere (kEo G d m_X4_isThere Q) 0 [.ref q] [] h := by
  refine wp_aload_n 1 dX4_isThere_0 rfl rfl ?_
  refine wp_getI 4 dX4_isThere_1 rfl fl_X4_15 (kSht_0 k_q) rfl ?_
  refine wp_if_eq 11 7 dX4_isThere_4 rfl rfl ⟨fun c1 => ?_, fun c1 => ?_⟩
  · replace H := H.1 c1
    refine wp_iconst (0 : Int32) 12 dX4_isThere_11 kiconst_0 rfl ?_
    exact wp_retz dX4_isThere_12 rfl (Or.inl rfl) H
  · replace H := H.2 c1
    refine wp_iconst (1 : Int32) 8 dX4_isThere_7 kiconst_1 rfl ?_
    refine wp_goto 12 dX4_isThere_8 rfl ?_
    exact wp_retz dX4_isThere_12 rfl (Or.inr rfl) H

theorem cg_X4_isThere {G : kG} {d : Nat} {Q : Int32 → kM → Prop} {q : Nat}  {h : kM} (hd : 1 ≤ d) (k_q : kSht q) (H :
    (((h q 1) = 0 →
      Q (0 : Int32) h
    ) ∧ (¬ ((h q 1) = 0) →
      Q (1 : Int32) h
    ))) : Cal G d m_X4_isThere [.ref q] h Q :=
  Cal.of [.ref q] (by decide +kernel) (Nat.le_of_ble_eq_true rfl) rfl (sg_X4_isThere_0 hd k_q H)

theorem sg_X4_holds_0 {G : kG} {d : Nat} {Q : Int32 → kM → Prop} {q : Nat} {a1 : Int32} {a2 : Int32} {h : kM} (hd : 1 ≤ d) (k_q : kSht q) (H :
    ((a2 < 0 →
      Q (0 : Int32) h
    ) ∧ (¬ (a2 < 0) →
      (((h q 2) < a2 →
        Q (0 : Int32) h
      ) ∧ (¬ ((h q 2) < a2) →
        ((a1 < 0 →
          Q (0 : Int32) h
        ) ∧ (¬ (a1 < 0) →
          ((((h q 2) - a2) < a1 →
            Q (0 : Int32) h
          ) ∧ (¬ (((h q 2) - a2) < a1) →
            Q (1 : Int32) h
          ))
        ))
      ))
    ))) : Wp G d m_X4_holds (kEo G d m_X4_holds Q) 0 [.ref q, .int a1, .int a2] [] h := by
  refine wp_iload_n 1 dX4_holds_0 rfl rfl ?_
  refine wp_if_lt 30 4 dX4_holds_1 rfl rfl ⟨fun c4 => ?_, fun c4 => ?_⟩
  · replace H := H.1 c4
    refine wp_iconst (0 : Int32) 31 dX4_holds_30 kiconst_0 rfl ?_
    exact wp_retz dX4_holds_31 rfl (Or.inl rfl) H
  · replace H := H.2 c4
    refine wp_iload_n 5 dX4_holds_4 rfl rfl ?_
    refine wp_aload_n 6 dX4_holds_5 rfl rfl ?_
    refine wp_getI 9 dX4_holds_6 rfl fl_X4_23 (kSht_0 k_q) rfl ?_
    refine wp_icmp_gt 30 12 dX4_holds_9 rfl rfl ⟨fun c3 => ?_, fun c3 => ?_⟩
    · replace H := H.1 c3
      refine wp_iconst (0 : Int32) 31 dX4_holds_30 kiconst_0 rfl ?_
      exact wp_retz dX4_holds_31 rfl (Or.inl rfl) H
    · replace H := H.2 c3
      refine wp_iload_n 13 dX4_holds_12 rfl rfl ?_
      refine wp_if_lt 30 16 dX4_holds_13 rfl rfl ⟨fun c2 => ?_, fun c2 => ?_⟩
      · replace H := H.1 c2
        refine wp_iconst (0 : Int32) 31 dX4_holds_30 kiconst_0 rfl ?_
        exact wp_retz dX4_holds_31 rfl (Or.inl rfl) H
      · replace H := H.2 c2
        refine wp_iload_n 17 dX4_holds_16 rfl rfl ?_
        refine wp_aload_n 18 dX4_holds_17 rfl rfl ?_
        refine wp_getI 21 dX4_holds_18 rfl fl_X4_23 (kSht_0 k_q) rfl ?_
        refine wp_iload_n 22 dX4_holds_21 rfl rfl ?_
        refine wp_isub 23 dX4_holds_22 rfl ?_
        refine wp_icmp_gt 30 26 dX4_holds_23 rfl rfl ⟨fun c1 => ?_, fun c1 => ?_⟩
        · replace H := H.1 c1
          refine wp_iconst (0 : Int32) 31 dX4_holds_30 kiconst_0 rfl ?_
          exact wp_retz dX4_holds_31 rfl (Or.inl rfl) H
        · replace H := H.2 c1
          refine wp_iconst (1 : Int32) 27 dX4_holds_26 kiconst_1 rfl ?_
          refine wp_goto 31 dX4_holds_27 rfl ?_
          exact wp_retz dX4_holds_31 rfl (Or.inr rfl) H

theorem cg_X4_holds {G : kG} {d : Nat} {Q : Int32 → kM → Prop} {q : Nat} {a1 : Int32} {a2 : Int32} {h : kM} (hd : 1 ≤ d) (k_q : kSht q) (H :
    ((a2 < 0 →
      Q (0 : Int32) h
    ) ∧ (¬ (a2 < 0) →
      (((h q 2) < a2 →
        Q (0 : Int32) h
      ) ∧ (¬ ((h q 2) < a2) →
        ((a1 < 0 →
          Q (0 : Int32) h
        ) ∧ (¬ (a1 < 0) →
          ((((h q 2) - a2) < a1 →
            Q (0 : Int32) h
          ) ∧ (¬ (((h q 2) - a2) < a1) →
            Q (1 : Int32) h
          ))
        ))
      ))
    ))) : Cal G d m_X4_holds [.ref q, .int a1, .int a2] h Q :=
  Cal.of [.ref q, .int a1, .int a2] (by decide +kernel) (Nat.le_of_ble_eq_true rfl) rfl (sg_X4_holds_0 hd k_q H)

theorem sg_X2_textOf_0 {G : kG} {d : Nat} {Q : Int32 → kM → Prop}  {a1 : Int32} {h : kM} (hd : 1 ≤ d)  (H :
    ((¬ a1 = 0 →
      Q (15 : Int32) h
    ) ∧ (a1 = 0 →
      Q (12 : Int32) h
    ))) : Wp G d m_X2_textOf (kEo G d m_X2_textOf Q) 0 [.ref 1, .int a1] [] h := by
  refine wp_iload_n 1 dX2_textOf_0 rfl rfl ?_
  refine wp_if_ne 11 4 dX2_textOf_1 rfl rfl ⟨fun c1 => ?_, fun c1 => ?_⟩
  · replace H := H.1 c1
    refine wp_aload_n 12 dX2_textOf_11 rfl rfl ?_
    refine wp_getR 14 15 15 dX2_textOf_12 rfl fl_X2_49 kd_1 rfl rfl rfl rfl ?_
    exact wp_reta (15 : Int32) dX2_textOf_15 rfl rfl H
  · replace H := H.2 c1
    refine wp_aload_n 5 dX2_textOf_4 rfl rfl ?_
    refine wp_getR 11 12 8 dX2_textOf_5 rfl fl_X2_45 kd_1 rfl rfl rfl rfl ?_
    refine wp_goto 15 dX2_textOf_8 rfl ?_
    exact wp_reta (12 : Int32) dX2_textOf_15 rfl rfl H

theorem cg_X2_textOf {G : kG} {d : Nat} {Q : Int32 → kM → Prop}  {a1 : Int32} {h : kM} (hd : 1 ≤ d)  (H :
    ((¬ a1 = 0 →
      Q (15 : Int32) h
    ) ∧ (a1 = 0 →
      Q (12 : Int32) h
    ))) : Cal G d m_X2_textOf [.ref 1, .int a1] h Q :=
  Cal.of [.ref 1, .int a1] (by decide +kernel) (Nat.le_of_ble_eq_true rfl) rfl (sg_X2_textOf_0 hd  H)

theorem sg_X2_slowForce_0 {G : kG} {d : Nat} {Q : Int32 → kM → Prop}  {a1 : Int32} {a2 : Int32} {h : kM} (hd : 1 ≤ d)  (H :
    (((6 : Int32) ≤ a2 →
      Q (0 : Int32) h
    ) ∧ (¬ ((6 : Int32) ≤ a2) →
      Q (a1 / (2 : Int32)) h
    ))) : Wp G d m_X2_slowForce (kEo G d m_X2_slowForce Q) 0 [.int a1, .int a2] [] h := by
  refine wp_iload_n 1 dX2_slowForce_0 rfl rfl ?_
  refine wp_bipush (6 : Int32) 3 dX2_slowForce_1 kbipush_6 rfl ?_
  refine wp_icmp_ge 12 6 dX2_slowForce_3 rfl rfl ⟨fun c1 => ?_, fun c1 => ?_⟩
  · replace H := H.1 c1
    refine wp_iconst (0 : Int32) 13 dX2_slowForce_12 kiconst_0 rfl ?_
    exact wp_reti dX2_slowForce_13 rfl H
  · replace H := H.2 c1
    refine wp_iload_n 7 dX2_slowForce_6 rfl rfl ?_
    refine wp_iconst (2 : Int32) 8 dX2_slowForce_7 kiconst_2 rfl ?_
    refine wp_idiv 9 dX2_slowForce_8 (by decide) rfl ?_
    refine wp_goto 13 dX2_slowForce_9 rfl ?_
    exact wp_reti dX2_slowForce_13 rfl H

theorem cg_X2_slowForce {G : kG} {d : Nat} {Q : Int32 → kM → Prop}  {a1 : Int32} {a2 : Int32} {h : kM} (hd : 1 ≤ d)  (H :
    (((6 : Int32) ≤ a2 →
      Q (0 : Int32) h
    ) ∧ (¬ ((6 : Int32) ≤ a2) →
      Q (a1 / (2 : Int32)) h
    ))) : Cal G d m_X2_slowForce [.int a1, .int a2] h Q :=
  Cal.of [.int a1, .int a2] (by decide +kernel) (Nat.le_of_ble_eq_true rfl) rfl (sg_X2_slowForce_0 hd  H)

theorem sg_X2_tieAnew_0 {G : kG} {d : Nat} {Q : Int32 → kM → Prop} {b : Nat} {a1 : Int32} {a2 : Int32} {a3 : Int32} {h : kM} (hd : 1 ≤ d) (k_b : kSea b) (H :
    (vp_in a1 15) ∧
    ∀ h2 : kM, h2 = kU h (b + 5) (a1).toNatClampNeg (a2 / (10 : Int32)) →
    (vp_in a1 15) ∧
    ∀ h4 : kM, h4 = kU h2 (b + 6) (a1).toNatClampNeg (a2 - a2 / (10 : Int32) * (10 : Int32)) →
    (vp_in a1 15) ∧
    ∀ h6 : kM, h6 = kU h4 (b + 7) (a1).toNatClampNeg a3 →
    (vp_in a1 15) ∧
    ∀ h8 : kM, h8 = kU h6 (b + 8) (a1).toNatClampNeg (-1 : Int32) →
    Q 0 h8) : Wp G d m_X2_tieAnew (kEo G d m_X2_tieAnew Q) 0 [.ref b, .int a1, .int a2, .int a3] [] h := by
  refine wp_aload_n 1 dX2_tieAnew_0 rfl rfl ?_
  refine wp_getR 5 (b + 5) 4 dX2_tieAnew_1 rfl fl_X2_24 (kSea_0 k_b) rfl rfl rfl rfl ?_
  refine wp_iload_n 5 dX2_tieAnew_4 rfl rfl ?_
  refine wp_iload_n 6 dX2_tieAnew_5 rfl rfl ?_
  refine wp_bipush (10 : Int32) 8 dX2_tieAnew_6 kbipush_10 rfl ?_
  refine wp_idiv 9 dX2_tieAnew_8 (by decide) rfl ?_
  have c1 := H.1; replace H := H.2
  refine wp_iast 10 dX2_tieAnew_9 rfl (kSea_5 k_b) c1 ?_
  refine wp_nm (fun h2 eh2 => ?_)
  replace H := H h2 eh2
  refine wp_aload_n 11 dX2_tieAnew_10 rfl rfl ?_
  refine wp_getR 6 (b + 6) 14 dX2_tieAnew_11 rfl fl_X2_27 (kSea_0 k_b) rfl rfl rfl rfl ?_
  refine wp_iload_n 15 dX2_tieAnew_14 rfl rfl ?_
  refine wp_iload_n 16 dX2_tieAnew_15 rfl rfl ?_
  refine wp_bipush (10 : Int32) 18 dX2_tieAnew_16 kbipush_10 rfl ?_
  refine wp_irem 19 dX2_tieAnew_18 (by decide) rfl ?_
  have c3 := H.1; replace H := H.2
  refine wp_iast 20 dX2_tieAnew_19 rfl (kSea_6 k_b) c3 ?_
  refine wp_nm (fun h4 eh4 => ?_)
  replace H := H h4 eh4
  refine wp_aload_n 21 dX2_tieAnew_20 rfl rfl ?_
  refine wp_getR 7 (b + 7) 24 dX2_tieAnew_21 rfl fl_X2_30 (kSea_0 k_b) rfl rfl rfl rfl ?_
  refine wp_iload_n 25 dX2_tieAnew_24 rfl rfl ?_
  refine wp_iload_n 26 dX2_tieAnew_25 rfl rfl ?_
  have c5 := H.1; replace H := H.2
  refine wp_iast 27 dX2_tieAnew_26 rfl (kSea_7 k_b) c5 ?_
  refine wp_nm (fun h6 eh6 => ?_)
  replace H := H h6 eh6
  refine wp_aload_n 28 dX2_tieAnew_27 rfl rfl ?_
  refine wp_getR 8 (b + 8) 31 dX2_tieAnew_28 rfl fl_X2_33 (kSea_0 k_b) rfl rfl rfl rfl ?_
  refine wp_iload_n 32 dX2_tieAnew_31 rfl rfl ?_
  refine wp_iconst (-1 : Int32) 33 dX2_tieAnew_32 kiconst_m1 rfl ?_
  have c7 := H.1; replace H := H.2
  refine wp_iast 34 dX2_tieAnew_33 rfl (kSea_8 k_b) c7 ?_
  refine wp_nm (fun h8 eh8 => ?_)
  replace H := H h8 eh8
  exact wp_retv dX2_tieAnew_34 rfl H

theorem cg_X2_tieAnew {G : kG} {d : Nat} {Q : Int32 → kM → Prop} {b : Nat} {a1 : Int32} {a2 : Int32} {a3 : Int32} {h : kM} (hd : 1 ≤ d) (k_b : kSea b) (H :
    (vp_in a1 15) ∧
    ∀ h2 : kM, h2 = kU h (b + 5) (a1).toNatClampNeg (a2 / (10 : Int32)) →
    (vp_in a1 15) ∧
    ∀ h4 : kM, h4 = kU h2 (b + 6) (a1).toNatClampNeg (a2 - a2 / (10 : Int32) * (10 : Int32)) →
    (vp_in a1 15) ∧
    ∀ h6 : kM, h6 = kU h4 (b + 7) (a1).toNatClampNeg a3 →
    (vp_in a1 15) ∧
    ∀ h8 : kM, h8 = kU h6 (b + 8) (a1).toNatClampNeg (-1 : Int32) →
    Q 0 h8) : Cal G d m_X2_tieAnew [.ref b, .int a1, .int a2, .int a3] h Q :=
  Cal.of [.ref b, .int a1, .int a2, .int a3] (by decide +kernel) (Nat.le_of_ble_eq_true rfl) rfl (sg_X2_tieAnew_0 hd k_b H)

theorem sg_X2_mayBeLoosed_0 {G : kG} {d : Nat} {Q : Int32 → kM → Prop} {b : Nat} {a1 : Int32} {a2 : Int32} {a3 : Int32} {h : kM} (hd : 3 ≤ d) (k_b : kSea b) (H :
    (vp_in a1 15) ∧
    ((¬ (h (b + 8) (a1).toNatClampNeg) = (-1 : Int32) →
      Q (0 : Int32) h
    ) ∧ ((h (b + 8) (a1).toNatClampNeg) = (-1 : Int32) →
      (((kb (kDay a2)) = 0 →
        Q (0 : Int32) h
      ) ∧ (¬ ((kb (kDay a2)) = 0) →
        (((a3 / 64) = (1 : Int32) →
          Q (0 : Int32) h
        ) ∧ (¬ ((a3 / 64) = (1 : Int32)) →
          Q (1 : Int32) h
        ))
      ))
    ))) : Wp G d m_X2_mayBeLoosed (kEo G d m_X2_mayBeLoosed Q) 0 [.ref b, .int a1, .int a2, .int a3] [] h := by
  refine wp_aload_n 1 dX2_mayBeLoosed_0 rfl rfl ?_
  refine wp_getR 8 (b + 8) 4 dX2_mayBeLoosed_1 rfl fl_X2_33 (kSea_0 k_b) rfl rfl rfl rfl ?_
  refine wp_iload_n 5 dX2_mayBeLoosed_4 rfl rfl ?_
  have c1 := H.1; replace H := H.2
  refine wp_iald 6 dX2_mayBeLoosed_5 rfl (kSea_8 k_b) c1 ?_
  refine wp_iconst (-1 : Int32) 7 dX2_mayBeLoosed_6 kiconst_m1 rfl ?_
  refine wp_icmp_ne 29 10 dX2_mayBeLoosed_7 rfl rfl ⟨fun c4 => ?_, fun c4 => ?_⟩
  · replace H := H.1 c4
    refine wp_iconst (0 : Int32) 30 dX2_mayBeLoosed_29 kiconst_0 rfl ?_
    exact wp_retz dX2_mayBeLoosed_30 rfl (Or.inl rfl) H
  · replace H := H.2 c4
    refine wp_iload_n 11 dX2_mayBeLoosed_10 rfl rfl ?_
    refine wp_cN (d - 1) 1 [.int a2] [] 14 dX2_mayBeLoosed_11 rfl (lk_X2_105 rfl) (by omega) rfl rfl (Nat.le_of_ble_eq_true rfl) (sp_X7_isDay (by omega)  ?_)
    refine wp_if_eq 29 17 dX2_mayBeLoosed_14 rfl rfl ⟨fun c3 => ?_, fun c3 => ?_⟩
    · replace H := H.1 c3
      refine wp_iconst (0 : Int32) 30 dX2_mayBeLoosed_29 kiconst_0 rfl ?_
      exact wp_retz dX2_mayBeLoosed_30 rfl (Or.inl rfl) H
    · replace H := H.2 c3
      refine wp_iload_n 18 dX2_mayBeLoosed_17 rfl rfl ?_
      refine wp_cN (d - 1) 1 [.int a3] [] 21 dX2_mayBeLoosed_18 rfl (lk_X2_90 rfl) (by omega) rfl rfl (Nat.le_of_ble_eq_true rfl) (sp_X7_stateOf (by omega)  ?_)
      refine wp_iconst (1 : Int32) 22 dX2_mayBeLoosed_21 kiconst_1 rfl ?_
      refine wp_icmp_eq 29 25 dX2_mayBeLoosed_22 rfl rfl ⟨fun c2 => ?_, fun c2 => ?_⟩
      · replace H := H.1 c2
        refine wp_iconst (0 : Int32) 30 dX2_mayBeLoosed_29 kiconst_0 rfl ?_
        exact wp_retz dX2_mayBeLoosed_30 rfl (Or.inl rfl) H
      · replace H := H.2 c2
        refine wp_iconst (1 : Int32) 26 dX2_mayBeLoosed_25 kiconst_1 rfl ?_
        refine wp_goto 30 dX2_mayBeLoosed_26 rfl ?_
        exact wp_retz dX2_mayBeLoosed_30 rfl (Or.inr rfl) H

theorem cg_X2_mayBeLoosed {G : kG} {d : Nat} {Q : Int32 → kM → Prop} {b : Nat} {a1 : Int32} {a2 : Int32} {a3 : Int32} {h : kM} (hd : 3 ≤ d) (k_b : kSea b) (H :
    (vp_in a1 15) ∧
    ((¬ (h (b + 8) (a1).toNatClampNeg) = (-1 : Int32) →
      Q (0 : Int32) h
    ) ∧ ((h (b + 8) (a1).toNatClampNeg) = (-1 : Int32) →
      (((kb (kDay a2)) = 0 →
        Q (0 : Int32) h
      ) ∧ (¬ ((kb (kDay a2)) = 0) →
        (((a3 / 64) = (1 : Int32) →
          Q (0 : Int32) h
        ) ∧ (¬ ((a3 / 64) = (1 : Int32)) →
          Q (1 : Int32) h
        ))
      ))
    ))) : Cal G d m_X2_mayBeLoosed [.ref b, .int a1, .int a2, .int a3] h Q :=
  Cal.of [.ref b, .int a1, .int a2, .int a3] (by decide +kernel) (Nat.le_of_ble_eq_true rfl) rfl (sg_X2_mayBeLoosed_0 hd k_b H)

theorem sg_X2_entered_0 {G : kG} {d : Nat} {Q : Int32 → kM → Prop} {b : Nat} {a1 : Int32} {a2 : Int32} {h : kM} (hd : 1 ≤ d) (k_b : kSea b) (H :
    (vp_in a1 5) ∧
    ((¬ a2 = (h (b + 4) (a1).toNatClampNeg) →
      (vp_in a2 64) ∧
      ((¬ (h (b + 1) (a2).toNatClampNeg) = (1 : Int32) →
        Q ((0 : Int32) + a2) h
      ) ∧ ((h (b + 1) (a2).toNatClampNeg) = (1 : Int32) →
        Q ((64 : Int32) + a2) h
      ))
    ) ∧ (a2 = (h (b + 4) (a1).toNatClampNeg) →
      Q ((128 : Int32) + a2) h
    ))) : Wp G d m_X2_entered (kEo G d m_X2_entered Q) 0 [.ref b, .int a1, .int a2] [] h := by
  refine wp_iload_n 1 dX2_entered_0 rfl rfl ?_
  refine wp_aload_n 2 dX2_entered_1 rfl rfl ?_
  refine wp_getR 4 (b + 4) 5 dX2_entered_2 rfl fl_X2_21 (kSea_0 k_b) rfl rfl rfl rfl ?_
  refine wp_iload_n 6 dX2_entered_5 rfl rfl ?_
  have c1 := H.1; replace H := H.2
  refine wp_iald 7 dX2_entered_6 rfl (kSea_4 k_b) c1 ?_
  refine wp_icmp_ne 16 10 dX2_entered_7 rfl rfl ⟨fun c4 => ?_, fun c4 => ?_⟩
  · replace H := H.1 c4
    refine wp_aload_n 17 dX2_entered_16 rfl rfl ?_
    refine wp_getR 1 (b + 1) 20 dX2_entered_17 rfl fl_X2_9 (kSea_0 k_b) rfl rfl rfl rfl ?_
    refine wp_iload_n 21 dX2_entered_20 rfl rfl ?_
    have c2 := H.1; replace H := H.2
    refine wp_iald 22 dX2_entered_21 rfl (kSea_1 k_b) c2 ?_
    refine wp_iconst (1 : Int32) 23 dX2_entered_22 kiconst_1 rfl ?_
    refine wp_icmp_ne 33 26 dX2_entered_23 rfl rfl ⟨fun c3 => ?_, fun c3 => ?_⟩
    · replace H := H.1 c3
      refine wp_iconst (0 : Int32) 34 dX2_entered_33 kiconst_0 rfl ?_
      refine wp_iload_n 35 dX2_entered_34 rfl rfl ?_
      refine wp_iadd 36 dX2_entered_35 rfl ?_
      exact wp_reti dX2_entered_36 rfl H
    · replace H := H.2 c3
      refine wp_bipush (64 : Int32) 28 dX2_entered_26 kbipush_64 rfl ?_
      refine wp_iload_n 29 dX2_entered_28 rfl rfl ?_
      refine wp_iadd 30 dX2_entered_29 rfl ?_
      refine wp_goto 36 dX2_entered_30 rfl ?_
      exact wp_reti dX2_entered_36 rfl H
  · replace H := H.2 c4
    refine wp_sipush (128 : Int32) 13 dX2_entered_10 ksipush_128 rfl ?_
    refine wp_iload_n 14 dX2_entered_13 rfl rfl ?_
    refine wp_iadd 15 dX2_entered_14 rfl ?_
    exact wp_reti dX2_entered_15 rfl H

theorem cg_X2_entered {G : kG} {d : Nat} {Q : Int32 → kM → Prop} {b : Nat} {a1 : Int32} {a2 : Int32} {h : kM} (hd : 1 ≤ d) (k_b : kSea b) (H :
    (vp_in a1 5) ∧
    ((¬ a2 = (h (b + 4) (a1).toNatClampNeg) →
      (vp_in a2 64) ∧
      ((¬ (h (b + 1) (a2).toNatClampNeg) = (1 : Int32) →
        Q ((0 : Int32) + a2) h
      ) ∧ ((h (b + 1) (a2).toNatClampNeg) = (1 : Int32) →
        Q ((64 : Int32) + a2) h
      ))
    ) ∧ (a2 = (h (b + 4) (a1).toNatClampNeg) →
      Q ((128 : Int32) + a2) h
    ))) : Cal G d m_X2_entered [.ref b, .int a1, .int a2] h Q :=
  Cal.of [.ref b, .int a1, .int a2] (by decide +kernel) (Nat.le_of_ble_eq_true rfl) rfl (sg_X2_entered_0 hd k_b H)

theorem sg_X2_drawn_0 {G : kG} {d : Nat} {Q : Int32 → kM → Prop} {b : Nat}  {h : kM} (hd : 1 ≤ d) (k_b : kSea b) (H :
    ∀ h1 : kM, h1 = kU h b 16 (((h b 16) * (1103515245 : Int32)) + (12345 : Int32)) →
    Q ((((h1 b 16)).toUInt32 >>> (((8 : Int32)).toUInt32 &&& Int32.toUInt32 31)).toInt32) h1) : Wp G d m_X2_drawn (kEo G d m_X2_drawn Q) 0 [.ref b] [] h := by
  refine wp_aload_n 1 dX2_drawn_0 rfl rfl ?_
  refine wp_aload_n 2 dX2_drawn_1 rfl rfl ?_
  refine wp_getI 5 dX2_drawn_2 rfl fl_X2_52 (kSea_0 k_b) rfl ?_
  refine wp_ldc (1103515245 : Int32) 7 dX2_drawn_5 lc_X2_157 rfl ?_
  refine wp_imul 8 dX2_drawn_7 rfl ?_
  refine wp_sipush (12345 : Int32) 11 dX2_drawn_8 ksipush_12345 rfl ?_
  refine wp_iadd 12 dX2_drawn_11 rfl ?_
  refine wp_putI 15 dX2_drawn_12 rfl fl_X2_52 fin_2_16 (kSea_0 k_b) rfl ?_
  refine wp_nm (fun h1 eh1 => ?_)
  replace H := H h1 eh1
  refine wp_aload_n 16 dX2_drawn_15 rfl rfl ?_
  refine wp_getI 19 dX2_drawn_16 rfl fl_X2_52 (kSea_0 k_b) rfl ?_
  refine wp_bipush (8 : Int32) 21 dX2_drawn_19 kbipush_8 rfl ?_
  refine wp_iushr 22 dX2_drawn_21 rfl ?_
  exact wp_reti dX2_drawn_22 rfl H

theorem cg_X2_drawn {G : kG} {d : Nat} {Q : Int32 → kM → Prop} {b : Nat}  {h : kM} (hd : 1 ≤ d) (k_b : kSea b) (H :
    ∀ h1 : kM, h1 = kU h b 16 (((h b 16) * (1103515245 : Int32)) + (12345 : Int32)) →
    Q ((((h1 b 16)).toUInt32 >>> (((8 : Int32)).toUInt32 &&& Int32.toUInt32 31)).toInt32) h1) : Cal G d m_X2_drawn [.ref b] h Q :=
  Cal.of [.ref b] (by decide +kernel) (Nat.le_of_ble_eq_true rfl) rfl (sg_X2_drawn_0 hd k_b H)

theorem sg_X1_next_0 {G : kG} {d : Nat} {Q : Int32 → kM → Prop}   {h : kM} (hd : 1 ≤ d)  (H :
    (((h 35 2) ≤ (h 35 3) →
      Q (-1 : Int32) h
    ) ∧ (¬ ((h 35 2) ≤ (h 35 3)) →
      (vp_in (h 35 3) 60) ∧
      Q (h 39 ((h 35 3)).toNatClampNeg) h
    ))) : Wp G d m_X1_next (kEo G d m_X1_next Q) 0 [.ref 35] [] h := by
  refine wp_aload_n 1 dX1_next_0 rfl rfl ?_
  refine wp_getI 4 dX1_next_1 rfl fl_X1_44 kd_35 rfl ?_
  refine wp_aload_n 5 dX1_next_4 rfl rfl ?_
  refine wp_getI 8 dX1_next_5 rfl fl_X1_34 kd_35 rfl ?_
  refine wp_icmp_ge 23 11 dX1_next_8 rfl rfl ⟨fun c2 => ?_, fun c2 => ?_⟩
  · replace H := H.1 c2
    refine wp_iconst (-1 : Int32) 24 dX1_next_23 kiconst_m1 rfl ?_
    exact wp_reti dX1_next_24 rfl H
  · replace H := H.2 c2
    refine wp_aload_n 12 dX1_next_11 rfl rfl ?_
    refine wp_getR 4 39 15 dX1_next_12 rfl fl_X1_18 kd_35 rfl rfl rfl rfl ?_
    refine wp_aload_n 16 dX1_next_15 rfl rfl ?_
    refine wp_getI 19 dX1_next_16 rfl fl_X1_44 kd_35 rfl ?_
    have c1 := H.1; replace H := H.2
    refine wp_iald 20 dX1_next_19 rfl kd_39 c1 ?_
    refine wp_goto 24 dX1_next_20 rfl ?_
    exact wp_reti dX1_next_24 rfl H

theorem cg_X1_next {G : kG} {d : Nat} {Q : Int32 → kM → Prop}   {h : kM} (hd : 1 ≤ d)  (H :
    (((h 35 2) ≤ (h 35 3) →
      Q (-1 : Int32) h
    ) ∧ (¬ ((h 35 2) ≤ (h 35 3)) →
      (vp_in (h 35 3) 60) ∧
      Q (h 39 ((h 35 3)).toNatClampNeg) h
    ))) : Cal G d m_X1_next [.ref 35] h Q :=
  Cal.of [.ref 35] (by decide +kernel) (Nat.le_of_ble_eq_true rfl) rfl (sg_X1_next_0 hd  H)

theorem sg_X1_isDigit_0 {G : kG} {d : Nat} {Q : Int32 → kM → Prop}  {a1 : Int32} {h : kM} (hd : 1 ≤ d)  (H :
    ((a1 < (48 : Int32) →
      Q (0 : Int32) h
    ) ∧ (¬ (a1 < (48 : Int32)) →
      (((57 : Int32) < a1 →
        Q (0 : Int32) h
      ) ∧ (¬ ((57 : Int32) < a1) →
        Q (1 : Int32) h
      ))
    ))) : Wp G d m_X1_isDigit (kEo G d m_X1_isDigit Q) 0 [.int a1] [] h := by
  refine wp_iload_n 1 dX1_isDigit_0 rfl rfl ?_
  refine wp_bipush (48 : Int32) 3 dX1_isDigit_1 kbipush_48 rfl ?_
  refine wp_icmp_lt 16 6 dX1_isDigit_3 rfl rfl ⟨fun c2 => ?_, fun c2 => ?_⟩
  · replace H := H.1 c2
    refine wp_iconst (0 : Int32) 17 dX1_isDigit_16 kiconst_0 rfl ?_
    exact wp_retz dX1_isDigit_17 rfl (Or.inl rfl) H
  · replace H := H.2 c2
    refine wp_iload_n 7 dX1_isDigit_6 rfl rfl ?_
    refine wp_bipush (57 : Int32) 9 dX1_isDigit_7 kbipush_57 rfl ?_
    refine wp_icmp_gt 16 12 dX1_isDigit_9 rfl rfl ⟨fun c1 => ?_, fun c1 => ?_⟩
    · replace H := H.1 c1
      refine wp_iconst (0 : Int32) 17 dX1_isDigit_16 kiconst_0 rfl ?_
      exact wp_retz dX1_isDigit_17 rfl (Or.inl rfl) H
    · replace H := H.2 c1
      refine wp_iconst (1 : Int32) 13 dX1_isDigit_12 kiconst_1 rfl ?_
      refine wp_goto 17 dX1_isDigit_13 rfl ?_
      exact wp_retz dX1_isDigit_17 rfl (Or.inr rfl) H

theorem cg_X1_isDigit {G : kG} {d : Nat} {Q : Int32 → kM → Prop}  {a1 : Int32} {h : kM} (hd : 1 ≤ d)  (H :
    ((a1 < (48 : Int32) →
      Q (0 : Int32) h
    ) ∧ (¬ (a1 < (48 : Int32)) →
      (((57 : Int32) < a1 →
        Q (0 : Int32) h
      ) ∧ (¬ ((57 : Int32) < a1) →
        Q (1 : Int32) h
      ))
    ))) : Cal G d m_X1_isDigit [.int a1] h Q :=
  Cal.of [.int a1] (by decide +kernel) (Nat.le_of_ble_eq_true rfl) rfl (sg_X1_isDigit_0 hd  H)

theorem sp_X6_isThere (hd : 1 ≤ d) {t : Nat} (kt : kTxt t) (k : Q (kb (0 < h t 2)) h) : Cal G d m_X6_isThere [.ref t] h Q :=
  cg_X6_isThere hd kt ⟨fun c => kq0 k (len c), fun c => kq1 k (nle c)⟩
theorem sp_X6_clear (hd : 1 ≤ d) {t : Nat} (kt : kTxt t) (k : ∀ h1, h1 = kU h t 2 0 → Q 0 h1) : Cal G d m_X6_clear [.ref t] h Q := cg_X6_clear hd kt k
def kTxtCp (h : kM) (t u : Nat) : kM := kU (kCp h (u + 1) (t + 1) 0 0 60) t 2 (h u 2)
theorem kTxt_ne {t u : Nat} (ht : kTxt t) (hu : kTxt u) : u ≠ t + 1 := by
  unfold kTxt at ht hu
  omega
theorem sp_X6_become (hd : 2 ≤ d) {t u : Nat} (kt : kTxt t) (ku : kTxt u) (k : ∀ h1, h1 = kTxtCp h t u → Q 0 h1) : Cal G d m_X6_become [.ref t, .ref u] h Q := by
  apply cg_X6_become hd kt ku
  intro h1 e1 h2 e2
  refine k h2 ?_
  rw [e2, e1]
  unfold kTxtCp
  rw [kCp_ne (kTxt_ne kt ku)]
def kOpd (it x y z : Int32) : Int32 := if it - 10000 = 0 then x else if it - 10000 = 1 then y else if it - 10000 = 2 then z else it
theorem sp_X6_operand (hd : 1 ≤ d) {it x y z : Int32} (k : Q (kOpd it x y z) h) : Cal G d m_X6_operand [.int it, .int x, .int y, .int z] h Q := by
  unfold kOpd at k
  refine cg_X6_operand hd ⟨fun c => by rw [if_pos c] at k; exact k, fun c => ?_⟩
  rw [if_neg c] at k
  refine ⟨fun c => by rw [if_pos c] at k; exact k, fun c => ?_⟩
  rw [if_neg c] at k
  exact ⟨fun c => by rw [if_pos c] at k; exact k, fun c => by rw [if_neg c] at k; exact k⟩
/-- an operator's sign, two numbers -/
def kJn (o x y : Int32) : Int32 := if o = 38 then kb (¬ x = 0 ∧ ¬ y = 0) else if o = 42 then x * y else if o = 43 then x + y else if o = 45 then x - y else if o = 47 then (if y = 0 then 0 else x / y) else if o = 60 then kb (x < y) else if o = 61 then kb (x = y) else if o = 62 then kb (y < x) else if o = 124 then kb (¬ x = 0 ∨ ¬ y = 0) else (if y = 0 then 0 else iR x y)
theorem sp_X6_joined (hd : 1 ≤ d) {o x y : Int32} (k : Q (kJn o x y) h) : Cal G d m_X6_joined [.int o, .int x, .int y] h Q := by
  unfold kJn at k
  apply cg_X6_joined hd
  refine ⟨fun e => ?_, fun e => ?_⟩
  · rw [if_pos e] at k
    exact ⟨fun c => kq0 k (fun q => q.1 c), fun c => ⟨fun c2 => kq0 k (fun q => q.2 c2), fun c2 => kq1 k ⟨c, c2⟩⟩⟩
  rw [if_neg e] at k
  refine ⟨fun e => by rw [if_pos e] at k; exact k, fun e => ?_⟩
  rw [if_neg e] at k
  refine ⟨fun e => by rw [if_pos e] at k; exact k, fun e => ?_⟩
  rw [if_neg e] at k
  refine ⟨fun e => by rw [if_pos e] at k; exact k, fun e => ?_⟩
  rw [if_neg e] at k
  refine ⟨fun e => ?_, fun e => ?_⟩
  · rw [if_pos e] at k
    exact ⟨fun c => ⟨c, by rw [if_neg c] at k; exact k⟩, fun c => by rw [if_pos c] at k; exact k⟩
  rw [if_neg e] at k
  refine ⟨fun e => ?_, fun e => ?_⟩
  · rw [if_pos e] at k
    exact ⟨fun c => kq0 k (len c), fun c => kq1 k (nle c)⟩
  rw [if_neg e] at k
  refine ⟨fun e => ?_, fun e => ?_⟩
  · rw [if_pos e] at k
    exact ⟨fun c => kq0 k c, fun c => kq1 k c⟩
  rw [if_neg e] at k
  refine ⟨fun e => ?_, fun e => ?_⟩
  · rw [if_pos e] at k
    exact ⟨fun c => kq0 k (len c), fun c => kq1 k (nle c)⟩
  rw [if_neg e] at k
  refine ⟨fun e => ?_, fun e => ?_⟩
  · rw [if_pos e] at k
    exact ⟨fun c => kq1 k (Or.inl c), fun c => ⟨fun c2 => kq0 k (fun q => q.elim (fun z => z c) (fun z => z c2)), fun c2 => kq1 k (Or.inr c2)⟩⟩
  rw [if_neg e] at k
  exact ⟨fun c => ⟨c, by rw [if_neg c] at k; exact k⟩, fun c => by rw [if_pos c] at k; exact k⟩
abbrev kHolds (n i m : Int32) : Prop := (0 ≤ m ∧ m ≤ n) ∧ (0 ≤ i ∧ i ≤ n - m)
theorem sp_X4_isThere (hd : 1 ≤ d) {q : Nat} (kq : kSht q) (k : Q (kb (¬ h q 1 = 0)) h) : Cal G d m_X4_isThere [.ref q] h Q :=
  cg_X4_isThere hd kq ⟨fun c => kq0 k (fun q => q c), fun c => kq1 k c⟩
theorem sp_X4_holds (hd : 1 ≤ d) {q : Nat} {i m : Int32} (kq : kSht q) (k : Q (kb (kHolds (h q 2) i m)) h) : Cal G d m_X4_holds [.ref q, .int i, .int m] h Q :=
  cg_X4_holds hd kq ⟨fun c => kq0 k (fun q => ltn c q.1.1), fun c => ⟨fun c2 => kq0 k (fun q => ltn c2 q.1.2), fun c2 => ⟨fun c3 => kq0 k (fun q => ltn c3 q.2.1), fun c3 => ⟨fun c4 => kq0 k (fun q => ltn c4 q.2.2), fun c4 => kq1 k ⟨⟨nlt c, nlt c2⟩, nlt c3, nlt c4⟩⟩⟩⟩⟩
theorem sp_X2_textOf (hd : 1 ≤ d) {u : Int32} (k : (u = 0 → Q 12 h) ∧ (¬ u = 0 → Q 15 h)) : Cal G d m_X2_textOf [.ref 1, .int u] h Q := cg_X2_textOf hd ⟨k.2, k.1⟩
theorem sp_X2_slowForce (hd : 1 ≤ d) {m x : Int32} (k : Q (if x < 6 then m / 2 else 0) h) : Cal G d m_X2_slowForce [.int m, .int x] h Q :=
  cg_X2_slowForce hd ⟨fun c => by rw [if_neg (len c)] at k; exact k, fun c => by rw [if_pos (nle c)] at k; exact k⟩
def kTie (h : kM) (b : Nat) (at' km way : Int32) : kM := kU (kU (kU (kU h (b + 5) at'.toNatClampNeg (km / 10)) (b + 6) at'.toNatClampNeg (iR km 10)) (b + 7) at'.toNatClampNeg way) (b + 8) at'.toNatClampNeg (-1)
theorem sp_X2_tieAnew (hd : 1 ≤ d) {b : Nat} {a km w : Int32} (hb : kSea b) (ha : vp_in a 15) (k : ∀ h1, h1 = kTie h b a km w → Q 0 h1) : Cal G d m_X2_tieAnew [.ref b, .int a, .int km, .int w] h Q := by
  apply cg_X2_tieAnew hd hb
  refine ⟨ha, fun h1 e1 => ⟨ha, fun h2 e2 => ⟨ha, fun h3 e3 => ⟨ha, fun h4 e4 => k h4 ?_⟩⟩⟩⟩
  rw [e4, e3, e2, e1]
  rfl
theorem sp_X2_mayBeLoosed (hd : 3 ≤ d) {b : Nat} {a t p : Int32} (hb : kSea b) (ha : vp_in a 15) (k : Q (kb (h (b + 8) a.toNatClampNeg = -1 ∧ kDay t ∧ ¬ p / 64 = 1)) h) : Cal G d m_X2_mayBeLoosed [.ref b, .int a, .int t, .int p] h Q := by
  exact cg_X2_mayBeLoosed hd hb ⟨ha, fun c => kq0 k (fun q => c q.1), fun c => ⟨fun c2 => kq0 k (fun q => kb_0.mp c2 q.2.1), fun c2 => ⟨fun c3 => kq0 k (fun q => q.2.2 c3), fun c3 => kq1 k ⟨c, kb_n0.mp c2, c3⟩⟩⟩⟩
def kEnt (la : Nat → Int32) (port cell : Int32) : Int32 := if cell = port then 128 + cell else if la cell.toNatClampNeg = 1 then 64 + cell else 0 + cell
theorem sp_X2_entered (hd : 1 ≤ d) {b : Nat} {p c : Int32} (hb : kSea b) (hp : vp_in p 5 ∧ vp_in c 64) (k : Q (kEnt (h (b + 1)) (h (b + 4) p.toNatClampNeg) c) h) : Cal G d m_X2_entered [.ref b, .int p, .int c] h Q := by
  unfold kEnt at k
  apply cg_X2_entered hd hb
  refine ⟨hp.1, fun e => ?_, fun e => by rw [if_pos e] at k; exact k⟩
  rw [if_neg e] at k
  exact ⟨hp.2, fun e => by rw [if_neg e] at k; exact k, fun e => by rw [if_pos e] at k; exact k⟩
def kDraw (z : Int32) : Int32 := ((z * 1103515245 + 12345).toUInt32 >>> ((8 : Int32).toUInt32 &&& Int32.toUInt32 31)).toInt32
theorem sp_X2_drawn (hd : 1 ≤ d) {b : Nat} (hb : kSea b) (k : ∀ h1, h1 = kU h b 16 (h b 16 * 1103515245 + 12345) → Q (kDraw (h b 16)) h1) : Cal G d m_X2_drawn [.ref b] h Q := by
  apply cg_X2_drawn hd hb
  intro h1 e1
  have h2 := k h1 e1
  have e2 : h1 b 16 = h b 16 * 1103515245 + 12345 := by rw [e1, kU_eq]; simp [upd]
  rw [e2]
  exact h2
/-- the byte that the reader stands at -/
def kNext (h : kM) : Int32 := if h 35 3 < h 35 2 then h 39 (h 35 3).toNatClampNeg else -1
theorem sp_X1_next (hd : 1 ≤ d) (hp : h 35 3 < h 35 2 → vp_in (h 35 3) 60) (k : Q (kNext h) h) : Cal G d m_X1_next [.ref 35] h Q := by
  unfold kNext at k
  refine cg_X1_next hd ⟨fun c => by rw [if_neg (len c)] at k; exact k, fun c => ⟨hp (nle c), by rw [if_pos (nle c)] at k; exact k⟩⟩
theorem sp_X1_isDigit (hd : 1 ≤ d) {c : Int32} (k : Q (kb (48 ≤ c ∧ c ≤ 57)) h) : Cal G d m_X1_isDigit [.int c] h Q := by
  exact cg_X1_isDigit hd ⟨fun c => kq0 k (fun q => ltn c q.1), fun c => ⟨fun c2 => kq0 k (fun q => ltn c2 q.2), fun c2 => kq1 k ⟨nlt c, nlt c2⟩⟩⟩
end Leaves

