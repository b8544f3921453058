/-! one ship's way: the model -/
section MSail
variable {G : kG} {d : Nat} {Q : Int32 → kM → Prop} {h : kM}
def at_X8_sails_24 (G : kG) (d : Nat) (Q : Int32 → kM → Prop)  (v1 : Int32) (v2 : Int32) (v3 : Int32) (v4 : Int32) (v5 : Int32) (h : kM) : Prop := Wp G d m_X8_sails (kEo G d m_X8_sails Q) 24 [.ref 88, .int v1, .int v2, .int v3, .int v4, .int v5, .null, .null, .null, .null] [] h
theorem sg_X8_sails_0 {G : kG} {d : Nat} {Q : Int32 → kM → Prop}  {a1 : Int32} {a2 : Int32} {a3 : Int32} {h : kM} (hd : 3 ≤ d)  (H :
    ((0 ≤ a2 →
      at_X8_sails_24 G d Q a1 a2 a3 a2 a3 h
    ) ∧ (¬ (0 ≤ a2) →
      at_X8_sails_24 G d Q a1 a2 a3 (-a2) (-a3) h
    ))) : Wp G d m_X8_sails (kEo G d m_X8_sails Q) 0 [.ref 88, .int a1, .int a2, .int a3, .null, .null, .null, .null, .null, .null] [] h := by
  refine wp_iload_n 1 dX8_sails_0 rfl rfl ?_
  refine wp_if_ge 9 4 dX8_sails_1 rfl rfl ⟨fun c1 => ?_, fun c1 => ?_⟩
  · replace H := H.1 c1
    refine wp_iload_n 10 dX8_sails_9 rfl rfl ?_
    refine wp_istore 12 dX8_sails_10 rfl (Nat.le_of_ble_eq_true rfl) rfl ?_
    refine wp_iload_n 13 dX8_sails_12 rfl rfl ?_
    refine wp_if_ge 21 16 dX8_sails_13 rfl rfl ⟨fun c2 => ?_, fun c2 => absurd c1 c2⟩
    refine wp_iload_n 22 dX8_sails_21 rfl rfl ?_
    refine wp_istore 24 dX8_sails_22 rfl (Nat.le_of_ble_eq_true rfl) rfl ?_
    exact H
  · replace H := H.2 c1
    refine wp_iload_n 5 dX8_sails_4 rfl rfl ?_
    refine wp_ineg 6 dX8_sails_5 rfl ?_
    refine wp_goto 10 dX8_sails_6 rfl ?_
    refine wp_istore 12 dX8_sails_10 rfl (Nat.le_of_ble_eq_true rfl) rfl ?_
    refine wp_iload_n 13 dX8_sails_12 rfl rfl ?_
    refine wp_if_ge 21 16 dX8_sails_13 rfl rfl ⟨fun c3 => absurd c3 c1, fun c3 => ?_⟩
    refine wp_iload_n 17 dX8_sails_16 rfl rfl ?_
    refine wp_ineg 18 dX8_sails_17 rfl ?_
    refine wp_goto 22 dX8_sails_18 rfl ?_
    refine wp_istore 24 dX8_sails_22 rfl (Nat.le_of_ble_eq_true rfl) rfl ?_
    exact H

theorem cg_X8_sails {G : kG} {d : Nat} {Q : Int32 → kM → Prop}  {a1 : Int32} {a2 : Int32} {a3 : Int32} {h : kM} (hd : 3 ≤ d)  (H :
    ((0 ≤ a2 →
      at_X8_sails_24 G d Q a1 a2 a3 a2 a3 h
    ) ∧ (¬ (0 ≤ a2) →
      at_X8_sails_24 G d Q a1 a2 a3 (-a2) (-a3) h
    ))) : Cal G d m_X8_sails [.ref 88, .int a1, .int a2, .int a3] h Q :=
  Cal.of [.ref 88, .int a1, .int a2, .int a3, .null, .null, .null, .null, .null, .null] (by decide +kernel) (Nat.le_of_ble_eq_true rfl) rfl (sg_X8_sails_0 hd  H)

theorem sg_X8_sails_24 {G : kG} {d : Nat} {Q : Int32 → kM → Prop}  {v1 : Int32} {v2 : Int32} {v3 : Int32} {v4 : Int32} {v5 : Int32} {h : kM} (hd : 3 ≤ d)  (H :
    ((v4 ≤ 0 →
      Q 0 h
    ) ∧ (¬ (v4 ≤ 0) →
      (okO v1 (2 : Int32)) ∧
      ((¬ (mOf (h 89) v1 (2 : Int32)) = 0 →
        Q 0 h
      ) ∧ ((mOf (h 89) v1 (2 : Int32)) = 0 →
        (okO v1 (0 : Int32)) ∧
        ((¬ v3 = (1 : Int32) →
          ((¬ v3 = (8 : Int32) →
            at_X8_sails_24 G d Q v1 v2 v3 (v4 + (-1 : Int32)) v5 h
          ) ∧ (v3 = (8 : Int32) →
            (((kb (0 ≤ ((mOf (h 89) v1 (0 : Int32)) + v5) ∧ ((mOf (h 89) v1 (0 : Int32)) + v5) ≤ 63)) = 0 →
              at_X8_sails_24 G d Q v1 v2 v3 (v4 + (-1 : Int32)) v5 h
            ) ∧ (¬ ((kb (0 ≤ ((mOf (h 89) v1 (0 : Int32)) + v5) ∧ ((mOf (h 89) v1 (0 : Int32)) + v5) ≤ 63)) = 0) →
              (okO v1 (0 : Int32)) ∧
              ∀ h9 : kM, h9 = mLay h v1 (0 : Int32) ((mOf (h 89) v1 (0 : Int32)) + v5) →
              (vp_in (((8 : Int32) + (mOf (h 89) v1 (0 : Int32))) + v5) 481) ∧
              ((¬ (h9 89 ((((8 : Int32) + (mOf (h 89) v1 (0 : Int32))) + v5)).toNatClampNeg) = (1 : Int32) →
                (okO v1 (1 : Int32)) ∧
                ((¬ ((mOf (h 89) v1 (0 : Int32)) + v5) = (mOf (h9 89) v1 (1 : Int32)) →
                  (okO v1 (2 : Int32)) ∧
                  ∀ h15 : kM, h15 = mLay h9 v1 (2 : Int32) (0 : Int32) →
                  at_X8_sails_24 G d Q v1 v2 v3 (v4 + (-1 : Int32)) v5 h15
                ) ∧ (((mOf (h 89) v1 (0 : Int32)) + v5) = (mOf (h9 89) v1 (1 : Int32)) →
                  (okO v1 (2 : Int32)) ∧
                  ∀ h17 : kM, h17 = mLay h9 v1 (2 : Int32) (2 : Int32) →
                  at_X8_sails_24 G d Q v1 v2 v3 (v4 + (-1 : Int32)) v5 h17
                ))
              ) ∧ ((h9 89 ((((8 : Int32) + (mOf (h 89) v1 (0 : Int32))) + v5)).toNatClampNeg) = (1 : Int32) →
                (okO v1 (1 : Int32)) ∧
                ((¬ ((mOf (h 89) v1 (0 : Int32)) + v5) = (mOf (h9 89) v1 (1 : Int32)) →
                  (okO v1 (2 : Int32)) ∧
                  ∀ h21 : kM, h21 = mLay h9 v1 (2 : Int32) (1 : Int32) →
                  at_X8_sails_24 G d Q v1 v2 v3 (v4 + (-1 : Int32)) v5 h21
                ) ∧ (((mOf (h 89) v1 (0 : Int32)) + v5) = (mOf (h9 89) v1 (1 : Int32)) →
                  (okO v1 (2 : Int32)) ∧
                  ∀ h23 : kM, h23 = mLay h9 v1 (2 : Int32) (2 : Int32) →
                  at_X8_sails_24 G d Q v1 v2 v3 (v4 + (-1 : Int32)) v5 h23
                ))
              ))
            ))
          ))
        ) ∧ (v3 = (1 : Int32) →
          ((¬ ((((mOf (h 89) v1 (0 : Int32)) + v5) + (8 : Int32)) / (8 : Int32)) = (((mOf (h 89) v1 (0 : Int32)) / (8 : Int32)) + (1 : Int32)) →
            ((¬ v3 = (8 : Int32) →
              at_X8_sails_24 G d Q v1 v2 v3 (v4 + (-1 : Int32)) v5 h
            ) ∧ (v3 = (8 : Int32) →
              (((kb (0 ≤ ((mOf (h 89) v1 (0 : Int32)) + v5) ∧ ((mOf (h 89) v1 (0 : Int32)) + v5) ≤ 63)) = 0 →
                at_X8_sails_24 G d Q v1 v2 v3 (v4 + (-1 : Int32)) v5 h
              ) ∧ (¬ ((kb (0 ≤ ((mOf (h 89) v1 (0 : Int32)) + v5) ∧ ((mOf (h 89) v1 (0 : Int32)) + v5) ≤ 63)) = 0) →
                (okO v1 (0 : Int32)) ∧
                ∀ h28 : kM, h28 = mLay h v1 (0 : Int32) ((mOf (h 89) v1 (0 : Int32)) + v5) →
                (vp_in (((8 : Int32) + (mOf (h 89) v1 (0 : Int32))) + v5) 481) ∧
                ((¬ (h28 89 ((((8 : Int32) + (mOf (h 89) v1 (0 : Int32))) + v5)).toNatClampNeg) = (1 : Int32) →
                  (okO v1 (1 : Int32)) ∧
                  ((¬ ((mOf (h 89) v1 (0 : Int32)) + v5) = (mOf (h28 89) v1 (1 : Int32)) →
                    (okO v1 (2 : Int32)) ∧
                    ∀ h34 : kM, h34 = mLay h28 v1 (2 : Int32) (0 : Int32) →
                    at_X8_sails_24 G d Q v1 v2 v3 (v4 + (-1 : Int32)) v5 h34
                  ) ∧ (((mOf (h 89) v1 (0 : Int32)) + v5) = (mOf (h28 89) v1 (1 : Int32)) →
                    (okO v1 (2 : Int32)) ∧
                    ∀ h36 : kM, h36 = mLay h28 v1 (2 : Int32) (2 : Int32) →
                    at_X8_sails_24 G d Q v1 v2 v3 (v4 + (-1 : Int32)) v5 h36
                  ))
                ) ∧ ((h28 89 ((((8 : Int32) + (mOf (h 89) v1 (0 : Int32))) + v5)).toNatClampNeg) = (1 : Int32) →
                  (okO v1 (1 : Int32)) ∧
                  ((¬ ((mOf (h 89) v1 (0 : Int32)) + v5) = (mOf (h28 89) v1 (1 : Int32)) →
                    (okO v1 (2 : Int32)) ∧
                    ∀ h40 : kM, h40 = mLay h28 v1 (2 : Int32) (1 : Int32) →
                    at_X8_sails_24 G d Q v1 v2 v3 (v4 + (-1 : Int32)) v5 h40
                  ) ∧ (((mOf (h 89) v1 (0 : Int32)) + v5) = (mOf (h28 89) v1 (1 : Int32)) →
                    (okO v1 (2 : Int32)) ∧
                    ∀ h42 : kM, h42 = mLay h28 v1 (2 : Int32) (2 : Int32) →
                    at_X8_sails_24 G d Q v1 v2 v3 (v4 + (-1 : Int32)) v5 h42
                  ))
                ))
              ))
            ))
          ) ∧ (((((mOf (h 89) v1 (0 : Int32)) + v5) + (8 : Int32)) / (8 : Int32)) = (((mOf (h 89) v1 (0 : Int32)) / (8 : Int32)) + (1 : Int32)) →
            ((¬ v3 = (8 : Int32) →
              (okO v1 (0 : Int32)) ∧
              ∀ h45 : kM, h45 = mLay h v1 (0 : Int32) ((mOf (h 89) v1 (0 : Int32)) + v5) →
              (vp_in (((8 : Int32) + (mOf (h 89) v1 (0 : Int32))) + v5) 481) ∧
              ((¬ (h45 89 ((((8 : Int32) + (mOf (h 89) v1 (0 : Int32))) + v5)).toNatClampNeg) = (1 : Int32) →
                (okO v1 (1 : Int32)) ∧
                ((¬ ((mOf (h 89) v1 (0 : Int32)) + v5) = (mOf (h45 89) v1 (1 : Int32)) →
                  (okO v1 (2 : Int32)) ∧
                  ∀ h51 : kM, h51 = mLay h45 v1 (2 : Int32) (0 : Int32) →
                  at_X8_sails_24 G d Q v1 v2 v3 (v4 + (-1 : Int32)) v5 h51
                ) ∧ (((mOf (h 89) v1 (0 : Int32)) + v5) = (mOf (h45 89) v1 (1 : Int32)) →
                  (okO v1 (2 : Int32)) ∧
                  ∀ h53 : kM, h53 = mLay h45 v1 (2 : Int32) (2 : Int32) →
                  at_X8_sails_24 G d Q v1 v2 v3 (v4 + (-1 : Int32)) v5 h53
                ))
              ) ∧ ((h45 89 ((((8 : Int32) + (mOf (h 89) v1 (0 : Int32))) + v5)).toNatClampNeg) = (1 : Int32) →
                (okO v1 (1 : Int32)) ∧
                ((¬ ((mOf (h 89) v1 (0 : Int32)) + v5) = (mOf (h45 89) v1 (1 : Int32)) →
                  (okO v1 (2 : Int32)) ∧
                  ∀ h57 : kM, h57 = mLay h45 v1 (2 : Int32) (1 : Int32) →
                  at_X8_sails_24 G d Q v1 v2 v3 (v4 + (-1 : Int32)) v5 h57
                ) ∧ (((mOf (h 89) v1 (0 : Int32)) + v5) = (mOf (h45 89) v1 (1 : Int32)) →
                  (okO v1 (2 : Int32)) ∧
                  ∀ h59 : kM, h59 = mLay h45 v1 (2 : Int32) (2 : Int32) →
                  at_X8_sails_24 G d Q v1 v2 v3 (v4 + (-1 : Int32)) v5 h59
                ))
              ))
            ) ∧ (v3 = (8 : Int32) →
              (((kb (0 ≤ ((mOf (h 89) v1 (0 : Int32)) + v5) ∧ ((mOf (h 89) v1 (0 : Int32)) + v5) ≤ 63)) = 0 →
                (okO v1 (0 : Int32)) ∧
                ∀ h62 : kM, h62 = mLay h v1 (0 : Int32) ((mOf (h 89) v1 (0 : Int32)) + v5) →
                (vp_in (((8 : Int32) + (mOf (h 89) v1 (0 : Int32))) + v5) 481) ∧
                ((¬ (h62 89 ((((8 : Int32) + (mOf (h 89) v1 (0 : Int32))) + v5)).toNatClampNeg) = (1 : Int32) →
                  (okO v1 (1 : Int32)) ∧
                  ((¬ ((mOf (h 89) v1 (0 : Int32)) + v5) = (mOf (h62 89) v1 (1 : Int32)) →
                    (okO v1 (2 : Int32)) ∧
                    ∀ h68 : kM, h68 = mLay h62 v1 (2 : Int32) (0 : Int32) →
                    at_X8_sails_24 G d Q v1 v2 v3 (v4 + (-1 : Int32)) v5 h68
                  ) ∧ (((mOf (h 89) v1 (0 : Int32)) + v5) = (mOf (h62 89) v1 (1 : Int32)) →
                    (okO v1 (2 : Int32)) ∧
                    ∀ h70 : kM, h70 = mLay h62 v1 (2 : Int32) (2 : Int32) →
                    at_X8_sails_24 G d Q v1 v2 v3 (v4 + (-1 : Int32)) v5 h70
                  ))
                ) ∧ ((h62 89 ((((8 : Int32) + (mOf (h 89) v1 (0 : Int32))) + v5)).toNatClampNeg) = (1 : Int32) →
                  (okO v1 (1 : Int32)) ∧
                  ((¬ ((mOf (h 89) v1 (0 : Int32)) + v5) = (mOf (h62 89) v1 (1 : Int32)) →
                    (okO v1 (2 : Int32)) ∧
                    ∀ h74 : kM, h74 = mLay h62 v1 (2 : Int32) (1 : Int32) →
                    at_X8_sails_24 G d Q v1 v2 v3 (v4 + (-1 : Int32)) v5 h74
                  ) ∧ (((mOf (h 89) v1 (0 : Int32)) + v5) = (mOf (h62 89) v1 (1 : Int32)) →
                    (okO v1 (2 : Int32)) ∧
                    ∀ h76 : kM, h76 = mLay h62 v1 (2 : Int32) (2 : Int32) →
                    at_X8_sails_24 G d Q v1 v2 v3 (v4 + (-1 : Int32)) v5 h76
                  ))
                ))
              ) ∧ (¬ ((kb (0 ≤ ((mOf (h 89) v1 (0 : Int32)) + v5) ∧ ((mOf (h 89) v1 (0 : Int32)) + v5) ≤ 63)) = 0) →
                (okO v1 (0 : Int32)) ∧
                ∀ h78 : kM, h78 = mLay h v1 (0 : Int32) ((mOf (h 89) v1 (0 : Int32)) + v5) →
                (vp_in (((8 : Int32) + (mOf (h 89) v1 (0 : Int32))) + v5) 481) ∧
                ((¬ (h78 89 ((((8 : Int32) + (mOf (h 89) v1 (0 : Int32))) + v5)).toNatClampNeg) = (1 : Int32) →
                  (okO v1 (1 : Int32)) ∧
                  ((¬ ((mOf (h 89) v1 (0 : Int32)) + v5) = (mOf (h78 89) v1 (1 : Int32)) →
                    (okO v1 (2 : Int32)) ∧
                    ∀ h84 : kM, h84 = mLay h78 v1 (2 : Int32) (0 : Int32) →
                    at_X8_sails_24 G d Q v1 v2 v3 (v4 + (-1 : Int32)) v5 h84
                  ) ∧ (((mOf (h 89) v1 (0 : Int32)) + v5) = (mOf (h78 89) v1 (1 : Int32)) →
                    (okO v1 (2 : Int32)) ∧
                    ∀ h86 : kM, h86 = mLay h78 v1 (2 : Int32) (2 : Int32) →
                    at_X8_sails_24 G d Q v1 v2 v3 (v4 + (-1 : Int32)) v5 h86
                  ))
                ) ∧ ((h78 89 ((((8 : Int32) + (mOf (h 89) v1 (0 : Int32))) + v5)).toNatClampNeg) = (1 : Int32) →
                  (okO v1 (1 : Int32)) ∧
                  ((¬ ((mOf (h 89) v1 (0 : Int32)) + v5) = (mOf (h78 89) v1 (1 : Int32)) →
                    (okO v1 (2 : Int32)) ∧
                    ∀ h90 : kM, h90 = mLay h78 v1 (2 : Int32) (1 : Int32) →
                    at_X8_sails_24 G d Q v1 v2 v3 (v4 + (-1 : Int32)) v5 h90
                  ) ∧ (((mOf (h 89) v1 (0 : Int32)) + v5) = (mOf (h78 89) v1 (1 : Int32)) →
                    (okO v1 (2 : Int32)) ∧
                    ∀ h92 : kM, h92 = mLay h78 v1 (2 : Int32) (2 : Int32) →
                    at_X8_sails_24 G d Q v1 v2 v3 (v4 + (-1 : Int32)) v5 h92
                  ))
                ))
              ))
            ))
          ))
        ))
      ))
    ))) : at_X8_sails_24 G d Q v1 v2 v3 v4 v5 h := by
  show Wp G d m_X8_sails (kEo G d m_X8_sails Q) 24 [.ref 88, .int v1, .int v2, .int v3, .int v4, .int v5, .null, .null, .null, .null] [] h
  refine wp_iload 26 dX8_sails_24 rfl rfl ?_
  refine wp_if_le 188 29 dX8_sails_26 rfl rfl ⟨fun c1 => ?_, fun c1 => ?_⟩
  · replace H := H.1 c1
    exact wp_retv dX8_sails_188 rfl H
  · replace H := H.2 c1
    refine wp_aload_n 30 dX8_sails_29 rfl rfl ?_
    refine wp_iload_n 31 dX8_sails_30 rfl rfl ?_
    refine wp_iconst (2 : Int32) 32 dX8_sails_31 kiconst_2 rfl ?_
    have c2 := H.1; replace H := H.2
    refine wp_cV (d - 1) 2 [.int v1, .int (2 : Int32)] [] 35 dX8_sails_32 rfl (lk_X8_146 rfl) (by omega) kd_88 rfl rfl rfl (Nat.le_of_ble_eq_true rfl) (sp_X8_of (by omega) c2 ?_)
    refine wp_if_ne 188 38 dX8_sails_35 rfl rfl ⟨fun c3 => ?_, fun c3 => ?_⟩
    · replace H := H.1 c3
      exact wp_retv dX8_sails_188 rfl H
    · replace H := H.2 c3
      refine wp_aload_n 39 dX8_sails_38 rfl rfl ?_
      refine wp_iload_n 40 dX8_sails_39 rfl rfl ?_
      refine wp_iconst (0 : Int32) 41 dX8_sails_40 kiconst_0 rfl ?_
      have c4 := H.1; replace H := H.2
      refine wp_cV (d - 1) 2 [.int v1, .int (0 : Int32)] [] 44 dX8_sails_41 rfl (lk_X8_146 rfl) (by omega) kd_88 rfl rfl rfl (Nat.le_of_ble_eq_true rfl) (sp_X8_of (by omega) c4 ?_)
      refine wp_istore 46 dX8_sails_44 rfl (Nat.le_of_ble_eq_true rfl) rfl ?_
      refine wp_iload_n 47 dX8_sails_46 rfl rfl ?_
      refine wp_iconst (1 : Int32) 48 dX8_sails_47 kiconst_1 rfl ?_
      refine wp_icmp_ne 76 51 dX8_sails_48 rfl rfl ⟨fun c5 => ?_, fun c5 => ?_⟩
      · replace H := H.1 c5
        refine wp_iconst (0 : Int32) 77 dX8_sails_76 kiconst_0 rfl ?_
        refine wp_istore 79 dX8_sails_77 rfl (Nat.le_of_ble_eq_true rfl) rfl ?_
        refine wp_iload_n 80 dX8_sails_79 rfl rfl ?_
        refine wp_bipush (8 : Int32) 82 dX8_sails_80 kbipush_8 rfl ?_
        refine wp_icmp_ne 100 85 dX8_sails_82 rfl rfl ⟨fun c6 => ?_, fun c6 => ?_⟩
        · replace H := H.1 c6
          refine wp_iconst (0 : Int32) 101 dX8_sails_100 kiconst_0 rfl ?_
          refine wp_istore 103 dX8_sails_101 rfl (Nat.le_of_ble_eq_true rfl) rfl ?_
          refine wp_iload 105 dX8_sails_103 rfl rfl ?_
          refine wp_if_ne 113 108 dX8_sails_105 rfl rfl ⟨fun c => absurd rfl c, fun c => ?_⟩
          refine wp_iload 110 dX8_sails_108 rfl rfl ?_
          refine wp_if_eq 182 113 dX8_sails_110 rfl rfl ⟨fun c => ?_, fun c => absurd (by decide) c⟩
          refine wp_iinc (-1 : Int32) 185 dX8_sails_182 rfl rfl kiconst_m1 (Nat.le_of_ble_eq_true rfl) rfl ?_
          refine wp_goto 24 dX8_sails_185 rfl ?_
          refine wp_drop 6 ?_
          refine wp_drop 7 ?_
          refine wp_drop 8 ?_
          exact H
        · replace H := H.2 c6
          refine wp_iload 87 dX8_sails_85 rfl rfl ?_
          refine wp_iload 89 dX8_sails_87 rfl rfl ?_
          refine wp_iadd 90 dX8_sails_89 rfl ?_
          refine wp_cS (d - 1) 1 [.int ((mOf (h 89) v1 (0 : Int32)) + v5)] [] 93 dX8_sails_90 rfl (lk_X8_136 rfl) (by omega) rfl rfl (Nat.le_of_ble_eq_true rfl) (sp_X8_isCell (by omega)  ?_)
          refine wp_if_eq 100 96 dX8_sails_93 rfl rfl ⟨fun c7 => ?_, fun c7 => ?_⟩
          · replace H := H.1 c7
            refine wp_iconst (0 : Int32) 101 dX8_sails_100 kiconst_0 rfl ?_
            refine wp_istore 103 dX8_sails_101 rfl (Nat.le_of_ble_eq_true rfl) rfl ?_
            refine wp_iload 105 dX8_sails_103 rfl rfl ?_
            refine wp_if_ne 113 108 dX8_sails_105 rfl rfl ⟨fun c => absurd rfl c, fun c => ?_⟩
            refine wp_iload 110 dX8_sails_108 rfl rfl ?_
            refine wp_if_eq 182 113 dX8_sails_110 rfl rfl ⟨fun c => ?_, fun c => absurd (by decide) c⟩
            refine wp_iinc (-1 : Int32) 185 dX8_sails_182 rfl rfl kiconst_m1 (Nat.le_of_ble_eq_true rfl) rfl ?_
            refine wp_goto 24 dX8_sails_185 rfl ?_
            refine wp_drop 6 ?_
            refine wp_drop 7 ?_
            refine wp_drop 8 ?_
            exact H
          · replace H := H.2 c7
            refine wp_iconst (1 : Int32) 97 dX8_sails_96 kiconst_1 rfl ?_
            refine wp_goto 101 dX8_sails_97 rfl ?_
            refine wp_istore 103 dX8_sails_101 rfl (Nat.le_of_ble_eq_true rfl) rfl ?_
            refine wp_iload 105 dX8_sails_103 rfl rfl ?_
            refine wp_if_ne 113 108 dX8_sails_105 rfl rfl ⟨fun c => absurd rfl c, fun c => ?_⟩
            refine wp_iload 110 dX8_sails_108 rfl rfl ?_
            refine wp_if_eq 182 113 dX8_sails_110 rfl rfl ⟨fun c => absurd c (by decide), fun c => ?_⟩
            refine wp_aload_n 114 dX8_sails_113 rfl rfl ?_
            refine wp_iload_n 115 dX8_sails_114 rfl rfl ?_
            refine wp_iconst (0 : Int32) 116 dX8_sails_115 kiconst_0 rfl ?_
            refine wp_iload 118 dX8_sails_116 rfl rfl ?_
            refine wp_iload 120 dX8_sails_118 rfl rfl ?_
            refine wp_iadd 121 dX8_sails_120 rfl ?_
            have c8 := H.1; replace H := H.2
            refine wp_cV (d - 1) 3 [.int v1, .int (0 : Int32), .int ((mOf (h 89) v1 (0 : Int32)) + v5)] [] 124 dX8_sails_121 rfl (lk_X8_142 rfl) (by omega) kd_88 rfl rfl rfl (Nat.le_of_ble_eq_true rfl) (sp_X8_lays1 (by omega) c8 (fun h9 eh9 => ?_))
            replace H := H h9 eh9
            refine wp_aload_n 125 dX8_sails_124 rfl rfl ?_
            refine wp_getR 1 89 128 dX8_sails_125 rfl fl_X8_7 kd_88 rfl rfl rfl rfl ?_
            refine wp_bipush (8 : Int32) 130 dX8_sails_128 kbipush_8 rfl ?_
            refine wp_iload 132 dX8_sails_130 rfl rfl ?_
            refine wp_iadd 133 dX8_sails_132 rfl ?_
            refine wp_iload 135 dX8_sails_133 rfl rfl ?_
            refine wp_iadd 136 dX8_sails_135 rfl ?_
            have c10 := H.1; replace H := H.2
            refine wp_iald 137 dX8_sails_136 rfl kd_89 c10 ?_
            refine wp_iconst (1 : Int32) 138 dX8_sails_137 kiconst_1 rfl ?_
            refine wp_icmp_ne 145 141 dX8_sails_138 rfl rfl ⟨fun c11 => ?_, fun c11 => ?_⟩
            · replace H := H.1 c11
              refine wp_iconst (0 : Int32) 146 dX8_sails_145 kiconst_0 rfl ?_
              refine wp_istore 148 dX8_sails_146 rfl (Nat.le_of_ble_eq_true rfl) rfl ?_
              refine wp_aload_n 149 dX8_sails_148 rfl rfl ?_
              refine wp_iload_n 150 dX8_sails_149 rfl rfl ?_
              refine wp_iconst (2 : Int32) 151 dX8_sails_150 kiconst_2 rfl ?_
              refine wp_iload 153 dX8_sails_151 rfl rfl ?_
              refine wp_iload 155 dX8_sails_153 rfl rfl ?_
              refine wp_iadd 156 dX8_sails_155 rfl ?_
              refine wp_aload_n 157 dX8_sails_156 rfl rfl ?_
              refine wp_iload_n 158 dX8_sails_157 rfl rfl ?_
              refine wp_iconst (1 : Int32) 159 dX8_sails_158 kiconst_1 rfl ?_
              have c12 := H.1; replace H := H.2
              refine wp_cV (d - 1) 2 [.int v1, .int (1 : Int32)] [.int ((mOf (h 89) v1 (0 : Int32)) + v5), .int (2 : Int32), .int v1, .ref 88] 162 dX8_sails_159 rfl (lk_X8_146 rfl) (by omega) kd_88 rfl rfl rfl (Nat.le_of_ble_eq_true rfl) (sp_X8_of (by omega) c12 ?_)
              refine wp_icmp_ne 169 165 dX8_sails_162 rfl rfl ⟨fun c13 => ?_, fun c13 => ?_⟩
              · replace H := H.1 c13
                refine wp_iload 171 dX8_sails_169 rfl rfl ?_
                refine wp_if_eq 178 174 dX8_sails_171 rfl rfl ⟨fun c => ?_, fun c => absurd (by decide) c⟩
                refine wp_iconst (0 : Int32) 179 dX8_sails_178 kiconst_0 rfl ?_
                have c14 := H.1; replace H := H.2
                refine wp_cV (d - 1) 3 [.int v1, .int (2 : Int32), .int (0 : Int32)] [] 182 dX8_sails_179 rfl (lk_X8_142 rfl) (by omega) kd_88 rfl rfl rfl (Nat.le_of_ble_eq_true rfl) (sp_X8_lays1 (by omega) c14 (fun h15 eh15 => ?_))
                replace H := H h15 eh15
                refine wp_iinc (-1 : Int32) 185 dX8_sails_182 rfl rfl kiconst_m1 (Nat.le_of_ble_eq_true rfl) rfl ?_
                refine wp_goto 24 dX8_sails_185 rfl ?_
                refine wp_drop 6 ?_
                refine wp_drop 7 ?_
                refine wp_drop 8 ?_
                refine wp_drop 9 ?_
                exact H
              · replace H := H.2 c13
                refine wp_iconst (2 : Int32) 166 dX8_sails_165 kiconst_2 rfl ?_
                refine wp_goto 179 dX8_sails_166 rfl ?_
                have c16 := H.1; replace H := H.2
                refine wp_cV (d - 1) 3 [.int v1, .int (2 : Int32), .int (2 : Int32)] [] 182 dX8_sails_179 rfl (lk_X8_142 rfl) (by omega) kd_88 rfl rfl rfl (Nat.le_of_ble_eq_true rfl) (sp_X8_lays1 (by omega) c16 (fun h17 eh17 => ?_))
                replace H := H h17 eh17
                refine wp_iinc (-1 : Int32) 185 dX8_sails_182 rfl rfl kiconst_m1 (Nat.le_of_ble_eq_true rfl) rfl ?_
                refine wp_goto 24 dX8_sails_185 rfl ?_
                refine wp_drop 6 ?_
                refine wp_drop 7 ?_
                refine wp_drop 8 ?_
                refine wp_drop 9 ?_
                exact H
            · replace H := H.2 c11
              refine wp_iconst (1 : Int32) 142 dX8_sails_141 kiconst_1 rfl ?_
              refine wp_goto 146 dX8_sails_142 rfl ?_
              refine wp_istore 148 dX8_sails_146 rfl (Nat.le_of_ble_eq_true rfl) rfl ?_
              refine wp_aload_n 149 dX8_sails_148 rfl rfl ?_
              refine wp_iload_n 150 dX8_sails_149 rfl rfl ?_
              refine wp_iconst (2 : Int32) 151 dX8_sails_150 kiconst_2 rfl ?_
              refine wp_iload 153 dX8_sails_151 rfl rfl ?_
              refine wp_iload 155 dX8_sails_153 rfl rfl ?_
              refine wp_iadd 156 dX8_sails_155 rfl ?_
              refine wp_aload_n 157 dX8_sails_156 rfl rfl ?_
              refine wp_iload_n 158 dX8_sails_157 rfl rfl ?_
              refine wp_iconst (1 : Int32) 159 dX8_sails_158 kiconst_1 rfl ?_
              have c18 := H.1; replace H := H.2
              refine wp_cV (d - 1) 2 [.int v1, .int (1 : Int32)] [.int ((mOf (h 89) v1 (0 : Int32)) + v5), .int (2 : Int32), .int v1, .ref 88] 162 dX8_sails_159 rfl (lk_X8_146 rfl) (by omega) kd_88 rfl rfl rfl (Nat.le_of_ble_eq_true rfl) (sp_X8_of (by omega) c18 ?_)
              refine wp_icmp_ne 169 165 dX8_sails_162 rfl rfl ⟨fun c19 => ?_, fun c19 => ?_⟩
              · replace H := H.1 c19
                refine wp_iload 171 dX8_sails_169 rfl rfl ?_
                refine wp_if_eq 178 174 dX8_sails_171 rfl rfl ⟨fun c => absurd c (by decide), fun c => ?_⟩
                refine wp_iconst (1 : Int32) 175 dX8_sails_174 kiconst_1 rfl ?_
                refine wp_goto 179 dX8_sails_175 rfl ?_
                have c20 := H.1; replace H := H.2
                refine wp_cV (d - 1) 3 [.int v1, .int (2 : Int32), .int (1 : Int32)] [] 182 dX8_sails_179 rfl (lk_X8_142 rfl) (by omega) kd_88 rfl rfl rfl (Nat.le_of_ble_eq_true rfl) (sp_X8_lays1 (by omega) c20 (fun h21 eh21 => ?_))
                replace H := H h21 eh21
                refine wp_iinc (-1 : Int32) 185 dX8_sails_182 rfl rfl kiconst_m1 (Nat.le_of_ble_eq_true rfl) rfl ?_
                refine wp_goto 24 dX8_sails_185 rfl ?_
                refine wp_drop 6 ?_
                refine wp_drop 7 ?_
                refine wp_drop 8 ?_
                refine wp_drop 9 ?_
                exact H
              · replace H := H.2 c19
                refine wp_iconst (2 : Int32) 166 dX8_sails_165 kiconst_2 rfl ?_
                refine wp_goto 179 dX8_sails_166 rfl ?_
                have c22 := H.1; replace H := H.2
                refine wp_cV (d - 1) 3 [.int v1, .int (2 : Int32), .int (2 : Int32)] [] 182 dX8_sails_179 rfl (lk_X8_142 rfl) (by omega) kd_88 rfl rfl rfl (Nat.le_of_ble_eq_true rfl) (sp_X8_lays1 (by omega) c22 (fun h23 eh23 => ?_))
                replace H := H h23 eh23
                refine wp_iinc (-1 : Int32) 185 dX8_sails_182 rfl rfl kiconst_m1 (Nat.le_of_ble_eq_true rfl) rfl ?_
                refine wp_goto 24 dX8_sails_185 rfl ?_
                refine wp_drop 6 ?_
                refine wp_drop 7 ?_
                refine wp_drop 8 ?_
                refine wp_drop 9 ?_
                exact H
      · replace H := H.2 c5
        refine wp_iload 53 dX8_sails_51 rfl rfl ?_
        refine wp_iload 55 dX8_sails_53 rfl rfl ?_
        refine wp_iadd 56 dX8_sails_55 rfl ?_
        refine wp_bipush (8 : Int32) 58 dX8_sails_56 kbipush_8 rfl ?_
        refine wp_iadd 59 dX8_sails_58 rfl ?_
        refine wp_bipush (8 : Int32) 61 dX8_sails_59 kbipush_8 rfl ?_
        refine wp_idiv 62 dX8_sails_61 (by decide) rfl ?_
        refine wp_iload 64 dX8_sails_62 rfl rfl ?_
        refine wp_bipush (8 : Int32) 66 dX8_sails_64 kbipush_8 rfl ?_
        refine wp_idiv 67 dX8_sails_66 (by decide) rfl ?_
        refine wp_iconst (1 : Int32) 68 dX8_sails_67 kiconst_1 rfl ?_
        refine wp_iadd 69 dX8_sails_68 rfl ?_
        refine wp_icmp_ne 76 72 dX8_sails_69 rfl rfl ⟨fun c24 => ?_, fun c24 => ?_⟩
        · replace H := H.1 c24
          refine wp_iconst (0 : Int32) 77 dX8_sails_76 kiconst_0 rfl ?_
          refine wp_istore 79 dX8_sails_77 rfl (Nat.le_of_ble_eq_true rfl) rfl ?_
          refine wp_iload_n 80 dX8_sails_79 rfl rfl ?_
          refine wp_bipush (8 : Int32) 82 dX8_sails_80 kbipush_8 rfl ?_
          refine wp_icmp_ne 100 85 dX8_sails_82 rfl rfl ⟨fun c25 => ?_, fun c25 => ?_⟩
          · replace H := H.1 c25
            refine wp_iconst (0 : Int32) 101 dX8_sails_100 kiconst_0 rfl ?_
            refine wp_istore 103 dX8_sails_101 rfl (Nat.le_of_ble_eq_true rfl) rfl ?_
            refine wp_iload 105 dX8_sails_103 rfl rfl ?_
            refine wp_if_ne 113 108 dX8_sails_105 rfl rfl ⟨fun c => absurd rfl c, fun c => ?_⟩
            refine wp_iload 110 dX8_sails_108 rfl rfl ?_
            refine wp_if_eq 182 113 dX8_sails_110 rfl rfl ⟨fun c => ?_, fun c => absurd (by decide) c⟩
            refine wp_iinc (-1 : Int32) 185 dX8_sails_182 rfl rfl kiconst_m1 (Nat.le_of_ble_eq_true rfl) rfl ?_
            refine wp_goto 24 dX8_sails_185 rfl ?_
            refine wp_drop 6 ?_
            refine wp_drop 7 ?_
            refine wp_drop 8 ?_
            exact H
          · replace H := H.2 c25
            refine wp_iload 87 dX8_sails_85 rfl rfl ?_
            refine wp_iload 89 dX8_sails_87 rfl rfl ?_
            refine wp_iadd 90 dX8_sails_89 rfl ?_
            refine wp_cS (d - 1) 1 [.int ((mOf (h 89) v1 (0 : Int32)) + v5)] [] 93 dX8_sails_90 rfl (lk_X8_136 rfl) (by omega) rfl rfl (Nat.le_of_ble_eq_true rfl) (sp_X8_isCell (by omega)  ?_)
            refine wp_if_eq 100 96 dX8_sails_93 rfl rfl ⟨fun c26 => ?_, fun c26 => ?_⟩
            · replace H := H.1 c26
              refine wp_iconst (0 : Int32) 101 dX8_sails_100 kiconst_0 rfl ?_
              refine wp_istore 103 dX8_sails_101 rfl (Nat.le_of_ble_eq_true rfl) rfl ?_
              refine wp_iload 105 dX8_sails_103 rfl rfl ?_
              refine wp_if_ne 113 108 dX8_sails_105 rfl rfl ⟨fun c => absurd rfl c, fun c => ?_⟩
              refine wp_iload 110 dX8_sails_108 rfl rfl ?_
              refine wp_if_eq 182 113 dX8_sails_110 rfl rfl ⟨fun c => ?_, fun c => absurd (by decide) c⟩
              refine wp_iinc (-1 : Int32) 185 dX8_sails_182 rfl rfl kiconst_m1 (Nat.le_of_ble_eq_true rfl) rfl ?_
              refine wp_goto 24 dX8_sails_185 rfl ?_
              refine wp_drop 6 ?_
              refine wp_drop 7 ?_
              refine wp_drop 8 ?_
              exact H
            · replace H := H.2 c26
              refine wp_iconst (1 : Int32) 97 dX8_sails_96 kiconst_1 rfl ?_
              refine wp_goto 101 dX8_sails_97 rfl ?_
              refine wp_istore 103 dX8_sails_101 rfl (Nat.le_of_ble_eq_true rfl) rfl ?_
              refine wp_iload 105 dX8_sails_103 rfl rfl ?_
              refine wp_if_ne 113 108 dX8_sails_105 rfl rfl ⟨fun c => absurd rfl c, fun c => ?_⟩
              refine wp_iload 110 dX8_sails_108 rfl rfl ?_
              refine wp_if_eq 182 113 dX8_sails_110 rfl rfl ⟨fun c => absurd c (by decide), fun c => ?_⟩
              refine wp_aload_n 114 dX8_sails_113 rfl rfl ?_
              refine wp_iload_n 115 dX8_sails_114 rfl rfl ?_
              refine wp_iconst (0 : Int32) 116 dX8_sails_115 kiconst_0 rfl ?_
              refine wp_iload 118 dX8_sails_116 rfl rfl ?_
              refine wp_iload 120 dX8_sails_118 rfl rfl ?_
              refine wp_iadd 121 dX8_sails_120 rfl ?_
              have c27 := H.1; replace H := H.2
              refine wp_cV (d - 1) 3 [.int v1, .int (0 : Int32), .int ((mOf (h 89) v1 (0 : Int32)) + v5)] [] 124 dX8_sails_121 rfl (lk_X8_142 rfl) (by omega) kd_88 rfl rfl rfl (Nat.le_of_ble_eq_true rfl) (sp_X8_lays1 (by omega) c27 (fun h28 eh28 => ?_))
              replace H := H h28 eh28
              refine wp_aload_n 125 dX8_sails_124 rfl rfl ?_
              refine wp_getR 1 89 128 dX8_sails_125 rfl fl_X8_7 kd_88 rfl rfl rfl rfl ?_
              refine wp_bipush (8 : Int32) 130 dX8_sails_128 kbipush_8 rfl ?_
              refine wp_iload 132 dX8_sails_130 rfl rfl ?_
              refine wp_iadd 133 dX8_sails_132 rfl ?_
              refine wp_iload 135 dX8_sails_133 rfl rfl ?_
              refine wp_iadd 136 dX8_sails_135 rfl ?_
              have c29 := H.1; replace H := H.2
              refine wp_iald 137 dX8_sails_136 rfl kd_89 c29 ?_
              refine wp_iconst (1 : Int32) 138 dX8_sails_137 kiconst_1 rfl ?_
              refine wp_icmp_ne 145 141 dX8_sails_138 rfl rfl ⟨fun c30 => ?_, fun c30 => ?_⟩
              · replace H := H.1 c30
                refine wp_iconst (0 : Int32) 146 dX8_sails_145 kiconst_0 rfl ?_
                refine wp_istore 148 dX8_sails_146 rfl (Nat.le_of_ble_eq_true rfl) rfl ?_
                refine wp_aload_n 149 dX8_sails_148 rfl rfl ?_
                refine wp_iload_n 150 dX8_sails_149 rfl rfl ?_
                refine wp_iconst (2 : Int32) 151 dX8_sails_150 kiconst_2 rfl ?_
                refine wp_iload 153 dX8_sails_151 rfl rfl ?_
                refine wp_iload 155 dX8_sails_153 rfl rfl ?_
                refine wp_iadd 156 dX8_sails_155 rfl ?_
                refine wp_aload_n 157 dX8_sails_156 rfl rfl ?_
                refine wp_iload_n 158 dX8_sails_157 rfl rfl ?_
                refine wp_iconst (1 : Int32) 159 dX8_sails_158 kiconst_1 rfl ?_
                have c31 := H.1; replace H := H.2
                refine wp_cV (d - 1) 2 [.int v1, .int (1 : Int32)] [.int ((mOf (h 89) v1 (0 : Int32)) + v5), .int (2 : Int32), .int v1, .ref 88] 162 dX8_sails_159 rfl (lk_X8_146 rfl) (by omega) kd_88 rfl rfl rfl (Nat.le_of_ble_eq_true rfl) (sp_X8_of (by omega) c31 ?_)
                refine wp_icmp_ne 169 165 dX8_sails_162 rfl rfl ⟨fun c32 => ?_, fun c32 => ?_⟩
                · replace H := H.1 c32
                  refine wp_iload 171 dX8_sails_169 rfl rfl ?_
                  refine wp_if_eq 178 174 dX8_sails_171 rfl rfl ⟨fun c => ?_, fun c => absurd (by decide) c⟩
                  refine wp_iconst (0 : Int32) 179 dX8_sails_178 kiconst_0 rfl ?_
                  have c33 := H.1; replace H := H.2
                  refine wp_cV (d - 1) 3 [.int v1, .int (2 : Int32), .int (0 : Int32)] [] 182 dX8_sails_179 rfl (lk_X8_142 rfl) (by omega) kd_88 rfl rfl rfl (Nat.le_of_ble_eq_true rfl) (sp_X8_lays1 (by omega) c33 (fun h34 eh34 => ?_))
                  replace H := H h34 eh34
                  refine wp_iinc (-1 : Int32) 185 dX8_sails_182 rfl rfl kiconst_m1 (Nat.le_of_ble_eq_true rfl) rfl ?_
                  refine wp_goto 24 dX8_sails_185 rfl ?_
                  refine wp_drop 6 ?_
                  refine wp_drop 7 ?_
                  refine wp_drop 8 ?_
                  refine wp_drop 9 ?_
                  exact H
                · replace H := H.2 c32
                  refine wp_iconst (2 : Int32) 166 dX8_sails_165 kiconst_2 rfl ?_
                  refine wp_goto 179 dX8_sails_166 rfl ?_
                  have c35 := H.1; replace H := H.2
                  refine wp_cV (d - 1) 3 [.int v1, .int (2 : Int32), .int (2 : Int32)] [] 182 dX8_sails_179 rfl (lk_X8_142 rfl) (by omega) kd_88 rfl rfl rfl (Nat.le_of_ble_eq_true rfl) (sp_X8_lays1 (by omega) c35 (fun h36 eh36 => ?_))
                  replace H := H h36 eh36
                  refine wp_iinc (-1 : Int32) 185 dX8_sails_182 rfl rfl kiconst_m1 (Nat.le_of_ble_eq_true rfl) rfl ?_
                  refine wp_goto 24 dX8_sails_185 rfl ?_
                  refine wp_drop 6 ?_
                  refine wp_drop 7 ?_
                  refine wp_drop 8 ?_
                  refine wp_drop 9 ?_
                  exact H
              · replace H := H.2 c30
                refine wp_iconst (1 : Int32) 142 dX8_sails_141 kiconst_1 rfl ?_
                refine wp_goto 146 dX8_sails_142 rfl ?_
                refine wp_istore 148 dX8_sails_146 rfl (Nat.le_of_ble_eq_true rfl) rfl ?_
                refine wp_aload_n 149 dX8_sails_148 rfl rfl ?_
                refine wp_iload_n 150 dX8_sails_149 rfl rfl ?_
                refine wp_iconst (2 : Int32) 151 dX8_sails_150 kiconst_2 rfl ?_
                refine wp_iload 153 dX8_sails_151 rfl rfl ?_
                refine wp_iload 155 dX8_sails_153 rfl rfl ?_
                refine wp_iadd 156 dX8_sails_155 rfl ?_
                refine wp_aload_n 157 dX8_sails_156 rfl rfl ?_
                refine wp_iload_n 158 dX8_sails_157 rfl rfl ?_
                refine wp_iconst (1 : Int32) 159 dX8_sails_158 kiconst_1 rfl ?_
                have c37 := H.1; replace H := H.2
                refine wp_cV (d - 1) 2 [.int v1, .int (1 : Int32)] [.int ((mOf (h 89) v1 (0 : Int32)) + v5), .int (2 : Int32), .int v1, .ref 88] 162 dX8_sails_159 rfl (lk_X8_146 rfl) (by omega) kd_88 rfl rfl rfl (Nat.le_of_ble_eq_true rfl) (sp_X8_of (by omega) c37 ?_)
                refine wp_icmp_ne 169 165 dX8_sails_162 rfl rfl ⟨fun c38 => ?_, fun c38 => ?_⟩
                · replace H := H.1 c38
                  refine wp_iload 171 dX8_sails_169 rfl rfl ?_
                  refine wp_if_eq 178 174 dX8_sails_171 rfl rfl ⟨fun c => absurd c (by decide), fun c => ?_⟩
                  refine wp_iconst (1 : Int32) 175 dX8_sails_174 kiconst_1 rfl ?_
                  refine wp_goto 179 dX8_sails_175 rfl ?_
                  have c39 := H.1; replace H := H.2
                  refine wp_cV (d - 1) 3 [.int v1, .int (2 : Int32), .int (1 : Int32)] [] 182 dX8_sails_179 rfl (lk_X8_142 rfl) (by omega) kd_88 rfl rfl rfl (Nat.le_of_ble_eq_true rfl) (sp_X8_lays1 (by omega) c39 (fun h40 eh40 => ?_))
                  replace H := H h40 eh40
                  refine wp_iinc (-1 : Int32) 185 dX8_sails_182 rfl rfl kiconst_m1 (Nat.le_of_ble_eq_true rfl) rfl ?_
                  refine wp_goto 24 dX8_sails_185 rfl ?_
                  refine wp_drop 6 ?_
                  refine wp_drop 7 ?_
                  refine wp_drop 8 ?_
                  refine wp_drop 9 ?_
                  exact H
                · replace H := H.2 c38
                  refine wp_iconst (2 : Int32) 166 dX8_sails_165 kiconst_2 rfl ?_
                  refine wp_goto 179 dX8_sails_166 rfl ?_
                  have c41 := H.1; replace H := H.2
                  refine wp_cV (d - 1) 3 [.int v1, .int (2 : Int32), .int (2 : Int32)] [] 182 dX8_sails_179 rfl (lk_X8_142 rfl) (by omega) kd_88 rfl rfl rfl (Nat.le_of_ble_eq_true rfl) (sp_X8_lays1 (by omega) c41 (fun h42 eh42 => ?_))
                  replace H := H h42 eh42
                  refine wp_iinc (-1 : Int32) 185 dX8_sails_182 rfl rfl kiconst_m1 (Nat.le_of_ble_eq_true rfl) rfl ?_
                  refine wp_goto 24 dX8_sails_185 rfl ?_
                  refine wp_drop 6 ?_
                  refine wp_drop 7 ?_
                  refine wp_drop 8 ?_
                  refine wp_drop 9 ?_
                  exact H
        · replace H := H.2 c24
          refine wp_iconst (1 : Int32) 73 dX8_sails_72 kiconst_1 rfl ?_
          refine wp_goto 77 dX8_sails_73 rfl ?_
          refine wp_istore 79 dX8_sails_77 rfl (Nat.le_of_ble_eq_true rfl) rfl ?_
          refine wp_iload_n 80 dX8_sails_79 rfl rfl ?_
          refine wp_bipush (8 : Int32) 82 dX8_sails_80 kbipush_8 rfl ?_
          refine wp_icmp_ne 100 85 dX8_sails_82 rfl rfl ⟨fun c43 => ?_, fun c43 => ?_⟩
          · replace H := H.1 c43
            refine wp_iconst (0 : Int32) 101 dX8_sails_100 kiconst_0 rfl ?_
            refine wp_istore 103 dX8_sails_101 rfl (Nat.le_of_ble_eq_true rfl) rfl ?_
            refine wp_iload 105 dX8_sails_103 rfl rfl ?_
            refine wp_if_ne 113 108 dX8_sails_105 rfl rfl ⟨fun c => ?_, fun c => absurd c (by decide)⟩
            refine wp_aload_n 114 dX8_sails_113 rfl rfl ?_
            refine wp_iload_n 115 dX8_sails_114 rfl rfl ?_
            refine wp_iconst (0 : Int32) 116 dX8_sails_115 kiconst_0 rfl ?_
            refine wp_iload 118 dX8_sails_116 rfl rfl ?_
            refine wp_iload 120 dX8_sails_118 rfl rfl ?_
            refine wp_iadd 121 dX8_sails_120 rfl ?_
            have c44 := H.1; replace H := H.2
            refine wp_cV (d - 1) 3 [.int v1, .int (0 : Int32), .int ((mOf (h 89) v1 (0 : Int32)) + v5)] [] 124 dX8_sails_121 rfl (lk_X8_142 rfl) (by omega) kd_88 rfl rfl rfl (Nat.le_of_ble_eq_true rfl) (sp_X8_lays1 (by omega) c44 (fun h45 eh45 => ?_))
            replace H := H h45 eh45
            refine wp_aload_n 125 dX8_sails_124 rfl rfl ?_
            refine wp_getR 1 89 128 dX8_sails_125 rfl fl_X8_7 kd_88 rfl rfl rfl rfl ?_
            refine wp_bipush (8 : Int32) 130 dX8_sails_128 kbipush_8 rfl ?_
            refine wp_iload 132 dX8_sails_130 rfl rfl ?_
            refine wp_iadd 133 dX8_sails_132 rfl ?_
            refine wp_iload 135 dX8_sails_133 rfl rfl ?_
            refine wp_iadd 136 dX8_sails_135 rfl ?_
            have c46 := H.1; replace H := H.2
            refine wp_iald 137 dX8_sails_136 rfl kd_89 c46 ?_
            refine wp_iconst (1 : Int32) 138 dX8_sails_137 kiconst_1 rfl ?_
            refine wp_icmp_ne 145 141 dX8_sails_138 rfl rfl ⟨fun c47 => ?_, fun c47 => ?_⟩
            · replace H := H.1 c47
              refine wp_iconst (0 : Int32) 146 dX8_sails_145 kiconst_0 rfl ?_
              refine wp_istore 148 dX8_sails_146 rfl (Nat.le_of_ble_eq_true rfl) rfl ?_
              refine wp_aload_n 149 dX8_sails_148 rfl rfl ?_
              refine wp_iload_n 150 dX8_sails_149 rfl rfl ?_
              refine wp_iconst (2 : Int32) 151 dX8_sails_150 kiconst_2 rfl ?_
              refine wp_iload 153 dX8_sails_151 rfl rfl ?_
              refine wp_iload 155 dX8_sails_153 rfl rfl ?_
              refine wp_iadd 156 dX8_sails_155 rfl ?_
              refine wp_aload_n 157 dX8_sails_156 rfl rfl ?_
              refine wp_iload_n 158 dX8_sails_157 rfl rfl ?_
              refine wp_iconst (1 : Int32) 159 dX8_sails_158 kiconst_1 rfl ?_
              have c48 := H.1; replace H := H.2
              refine wp_cV (d - 1) 2 [.int v1, .int (1 : Int32)] [.int ((mOf (h 89) v1 (0 : Int32)) + v5), .int (2 : Int32), .int v1, .ref 88] 162 dX8_sails_159 rfl (lk_X8_146 rfl) (by omega) kd_88 rfl rfl rfl (Nat.le_of_ble_eq_true rfl) (sp_X8_of (by omega) c48 ?_)
              refine wp_icmp_ne 169 165 dX8_sails_162 rfl rfl ⟨fun c49 => ?_, fun c49 => ?_⟩
              · replace H := H.1 c49
                refine wp_iload 171 dX8_sails_169 rfl rfl ?_
                refine wp_if_eq 178 174 dX8_sails_171 rfl rfl ⟨fun c => ?_, fun c => absurd (by decide) c⟩
                refine wp_iconst (0 : Int32) 179 dX8_sails_178 kiconst_0 rfl ?_
                have c50 := H.1; replace H := H.2
                refine wp_cV (d - 1) 3 [.int v1, .int (2 : Int32), .int (0 : Int32)] [] 182 dX8_sails_179 rfl (lk_X8_142 rfl) (by omega) kd_88 rfl rfl rfl (Nat.le_of_ble_eq_true rfl) (sp_X8_lays1 (by omega) c50 (fun h51 eh51 => ?_))
                replace H := H h51 eh51
                refine wp_iinc (-1 : Int32) 185 dX8_sails_182 rfl rfl kiconst_m1 (Nat.le_of_ble_eq_true rfl) rfl ?_
                refine wp_goto 24 dX8_sails_185 rfl ?_
                refine wp_drop 6 ?_
                refine wp_drop 7 ?_
                refine wp_drop 8 ?_
                refine wp_drop 9 ?_
                exact H
              · replace H := H.2 c49
                refine wp_iconst (2 : Int32) 166 dX8_sails_165 kiconst_2 rfl ?_
                refine wp_goto 179 dX8_sails_166 rfl ?_
                have c52 := H.1; replace H := H.2
                refine wp_cV (d - 1) 3 [.int v1, .int (2 : Int32), .int (2 : Int32)] [] 182 dX8_sails_179 rfl (lk_X8_142 rfl) (by omega) kd_88 rfl rfl rfl (Nat.le_of_ble_eq_true rfl) (sp_X8_lays1 (by omega) c52 (fun h53 eh53 => ?_))
                replace H := H h53 eh53
                refine wp_iinc (-1 : Int32) 185 dX8_sails_182 rfl rfl kiconst_m1 (Nat.le_of_ble_eq_true rfl) rfl ?_
                refine wp_goto 24 dX8_sails_185 rfl ?_
                refine wp_drop 6 ?_
                refine wp_drop 7 ?_
                refine wp_drop 8 ?_
                refine wp_drop 9 ?_
                exact H
            · replace H := H.2 c47
              refine wp_iconst (1 : Int32) 142 dX8_sails_141 kiconst_1 rfl ?_
              refine wp_goto 146 dX8_sails_142 rfl ?_
              refine wp_istore 148 dX8_sails_146 rfl (Nat.le_of_ble_eq_true rfl) rfl ?_
              refine wp_aload_n 149 dX8_sails_148 rfl rfl ?_
              refine wp_iload_n 150 dX8_sails_149 rfl rfl ?_
              refine wp_iconst (2 : Int32) 151 dX8_sails_150 kiconst_2 rfl ?_
              refine wp_iload 153 dX8_sails_151 rfl rfl ?_
              refine wp_iload 155 dX8_sails_153 rfl rfl ?_
              refine wp_iadd 156 dX8_sails_155 rfl ?_
              refine wp_aload_n 157 dX8_sails_156 rfl rfl ?_
              refine wp_iload_n 158 dX8_sails_157 rfl rfl ?_
              refine wp_iconst (1 : Int32) 159 dX8_sails_158 kiconst_1 rfl ?_
              have c54 := H.1; replace H := H.2
              refine wp_cV (d - 1) 2 [.int v1, .int (1 : Int32)] [.int ((mOf (h 89) v1 (0 : Int32)) + v5), .int (2 : Int32), .int v1, .ref 88] 162 dX8_sails_159 rfl (lk_X8_146 rfl) (by omega) kd_88 rfl rfl rfl (Nat.le_of_ble_eq_true rfl) (sp_X8_of (by omega) c54 ?_)
              refine wp_icmp_ne 169 165 dX8_sails_162 rfl rfl ⟨fun c55 => ?_, fun c55 => ?_⟩
              · replace H := H.1 c55
                refine wp_iload 171 dX8_sails_169 rfl rfl ?_
                refine wp_if_eq 178 174 dX8_sails_171 rfl rfl ⟨fun c => absurd c (by decide), fun c => ?_⟩
                refine wp_iconst (1 : Int32) 175 dX8_sails_174 kiconst_1 rfl ?_
                refine wp_goto 179 dX8_sails_175 rfl ?_
                have c56 := H.1; replace H := H.2
                refine wp_cV (d - 1) 3 [.int v1, .int (2 : Int32), .int (1 : Int32)] [] 182 dX8_sails_179 rfl (lk_X8_142 rfl) (by omega) kd_88 rfl rfl rfl (Nat.le_of_ble_eq_true rfl) (sp_X8_lays1 (by omega) c56 (fun h57 eh57 => ?_))
                replace H := H h57 eh57
                refine wp_iinc (-1 : Int32) 185 dX8_sails_182 rfl rfl kiconst_m1 (Nat.le_of_ble_eq_true rfl) rfl ?_
                refine wp_goto 24 dX8_sails_185 rfl ?_
                refine wp_drop 6 ?_
                refine wp_drop 7 ?_
                refine wp_drop 8 ?_
                refine wp_drop 9 ?_
                exact H
              · replace H := H.2 c55
                refine wp_iconst (2 : Int32) 166 dX8_sails_165 kiconst_2 rfl ?_
                refine wp_goto 179 dX8_sails_166 rfl ?_
                have c58 := H.1; replace H := H.2
                refine wp_cV (d - 1) 3 [.int v1, .int (2 : Int32), .int (2 : Int32)] [] 182 dX8_sails_179 rfl (lk_X8_142 rfl) (by omega) kd_88 rfl rfl rfl (Nat.le_of_ble_eq_true rfl) (sp_X8_lays1 (by omega) c58 (fun h59 eh59 => ?_))
                replace H := H h59 eh59
                refine wp_iinc (-1 : Int32) 185 dX8_sails_182 rfl rfl kiconst_m1 (Nat.le_of_ble_eq_true rfl) rfl ?_
                refine wp_goto 24 dX8_sails_185 rfl ?_
                refine wp_drop 6 ?_
                refine wp_drop 7 ?_
                refine wp_drop 8 ?_
                refine wp_drop 9 ?_
                exact H
          · replace H := H.2 c43
            refine wp_iload 87 dX8_sails_85 rfl rfl ?_
            refine wp_iload 89 dX8_sails_87 rfl rfl ?_
            refine wp_iadd 90 dX8_sails_89 rfl ?_
            refine wp_cS (d - 1) 1 [.int ((mOf (h 89) v1 (0 : Int32)) + v5)] [] 93 dX8_sails_90 rfl (lk_X8_136 rfl) (by omega) rfl rfl (Nat.le_of_ble_eq_true rfl) (sp_X8_isCell (by omega)  ?_)
            refine wp_if_eq 100 96 dX8_sails_93 rfl rfl ⟨fun c60 => ?_, fun c60 => ?_⟩
            · replace H := H.1 c60
              refine wp_iconst (0 : Int32) 101 dX8_sails_100 kiconst_0 rfl ?_
              refine wp_istore 103 dX8_sails_101 rfl (Nat.le_of_ble_eq_true rfl) rfl ?_
              refine wp_iload 105 dX8_sails_103 rfl rfl ?_
              refine wp_if_ne 113 108 dX8_sails_105 rfl rfl ⟨fun c => ?_, fun c => absurd c (by decide)⟩
              refine wp_aload_n 114 dX8_sails_113 rfl rfl ?_
              refine wp_iload_n 115 dX8_sails_114 rfl rfl ?_
              refine wp_iconst (0 : Int32) 116 dX8_sails_115 kiconst_0 rfl ?_
              refine wp_iload 118 dX8_sails_116 rfl rfl ?_
              refine wp_iload 120 dX8_sails_118 rfl rfl ?_
              refine wp_iadd 121 dX8_sails_120 rfl ?_
              have c61 := H.1; replace H := H.2
              refine wp_cV (d - 1) 3 [.int v1, .int (0 : Int32), .int ((mOf (h 89) v1 (0 : Int32)) + v5)] [] 124 dX8_sails_121 rfl (lk_X8_142 rfl) (by omega) kd_88 rfl rfl rfl (Nat.le_of_ble_eq_true rfl) (sp_X8_lays1 (by omega) c61 (fun h62 eh62 => ?_))
              replace H := H h62 eh62
              refine wp_aload_n 125 dX8_sails_124 rfl rfl ?_
              refine wp_getR 1 89 128 dX8_sails_125 rfl fl_X8_7 kd_88 rfl rfl rfl rfl ?_
              refine wp_bipush (8 : Int32) 130 dX8_sails_128 kbipush_8 rfl ?_
              refine wp_iload 132 dX8_sails_130 rfl rfl ?_
              refine wp_iadd 133 dX8_sails_132 rfl ?_
              refine wp_iload 135 dX8_sails_133 rfl rfl ?_
              refine wp_iadd 136 dX8_sails_135 rfl ?_
              have c63 := H.1; replace H := H.2
              refine wp_iald 137 dX8_sails_136 rfl kd_89 c63 ?_
              refine wp_iconst (1 : Int32) 138 dX8_sails_137 kiconst_1 rfl ?_
              refine wp_icmp_ne 145 141 dX8_sails_138 rfl rfl ⟨fun c64 => ?_, fun c64 => ?_⟩
              · replace H := H.1 c64
                refine wp_iconst (0 : Int32) 146 dX8_sails_145 kiconst_0 rfl ?_
                refine wp_istore 148 dX8_sails_146 rfl (Nat.le_of_ble_eq_true rfl) rfl ?_
                refine wp_aload_n 149 dX8_sails_148 rfl rfl ?_
                refine wp_iload_n 150 dX8_sails_149 rfl rfl ?_
                refine wp_iconst (2 : Int32) 151 dX8_sails_150 kiconst_2 rfl ?_
                refine wp_iload 153 dX8_sails_151 rfl rfl ?_
                refine wp_iload 155 dX8_sails_153 rfl rfl ?_
                refine wp_iadd 156 dX8_sails_155 rfl ?_
                refine wp_aload_n 157 dX8_sails_156 rfl rfl ?_
                refine wp_iload_n 158 dX8_sails_157 rfl rfl ?_
                refine wp_iconst (1 : Int32) 159 dX8_sails_158 kiconst_1 rfl ?_
                have c65 := H.1; replace H := H.2
                refine wp_cV (d - 1) 2 [.int v1, .int (1 : Int32)] [.int ((mOf (h 89) v1 (0 : Int32)) + v5), .int (2 : Int32), .int v1, .ref 88] 162 dX8_sails_159 rfl (lk_X8_146 rfl) (by omega) kd_88 rfl rfl rfl (Nat.le_of_ble_eq_true rfl) (sp_X8_of (by omega) c65 ?_)
                refine wp_icmp_ne 169 165 dX8_sails_162 rfl rfl ⟨fun c66 => ?_, fun c66 => ?_⟩
                · replace H := H.1 c66
                  refine wp_iload 171 dX8_sails_169 rfl rfl ?_
                  refine wp_if_eq 178 174 dX8_sails_171 rfl rfl ⟨fun c => ?_, fun c => absurd (by decide) c⟩
                  refine wp_iconst (0 : Int32) 179 dX8_sails_178 kiconst_0 rfl ?_
                  have c67 := H.1; replace H := H.2
                  refine wp_cV (d - 1) 3 [.int v1, .int (2 : Int32), .int (0 : Int32)] [] 182 dX8_sails_179 rfl (lk_X8_142 rfl) (by omega) kd_88 rfl rfl rfl (Nat.le_of_ble_eq_true rfl) (sp_X8_lays1 (by omega) c67 (fun h68 eh68 => ?_))
                  replace H := H h68 eh68
                  refine wp_iinc (-1 : Int32) 185 dX8_sails_182 rfl rfl kiconst_m1 (Nat.le_of_ble_eq_true rfl) rfl ?_
                  refine wp_goto 24 dX8_sails_185 rfl ?_
                  refine wp_drop 6 ?_
                  refine wp_drop 7 ?_
                  refine wp_drop 8 ?_
                  refine wp_drop 9 ?_
                  exact H
                · replace H := H.2 c66
                  refine wp_iconst (2 : Int32) 166 dX8_sails_165 kiconst_2 rfl ?_
                  refine wp_goto 179 dX8_sails_166 rfl ?_
                  have c69 := H.1; replace H := H.2
                  refine wp_cV (d - 1) 3 [.int v1, .int (2 : Int32), .int (2 : Int32)] [] 182 dX8_sails_179 rfl (lk_X8_142 rfl) (by omega) kd_88 rfl rfl rfl (Nat.le_of_ble_eq_true rfl) (sp_X8_lays1 (by omega) c69 (fun h70 eh70 => ?_))
                  replace H := H h70 eh70
                  refine wp_iinc (-1 : Int32) 185 dX8_sails_182 rfl rfl kiconst_m1 (Nat.le_of_ble_eq_true rfl) rfl ?_
                  refine wp_goto 24 dX8_sails_185 rfl ?_
                  refine wp_drop 6 ?_
                  refine wp_drop 7 ?_
                  refine wp_drop 8 ?_
                  refine wp_drop 9 ?_
                  exact H
              · replace H := H.2 c64
                refine wp_iconst (1 : Int32) 142 dX8_sails_141 kiconst_1 rfl ?_
                refine wp_goto 146 dX8_sails_142 rfl ?_
                refine wp_istore 148 dX8_sails_146 rfl (Nat.le_of_ble_eq_true rfl) rfl ?_
                refine wp_aload_n 149 dX8_sails_148 rfl rfl ?_
                refine wp_iload_n 150 dX8_sails_149 rfl rfl ?_
                refine wp_iconst (2 : Int32) 151 dX8_sails_150 kiconst_2 rfl ?_
                refine wp_iload 153 dX8_sails_151 rfl rfl ?_
                refine wp_iload 155 dX8_sails_153 rfl rfl ?_
                refine wp_iadd 156 dX8_sails_155 rfl ?_
                refine wp_aload_n 157 dX8_sails_156 rfl rfl ?_
                refine wp_iload_n 158 dX8_sails_157 rfl rfl ?_
                refine wp_iconst (1 : Int32) 159 dX8_sails_158 kiconst_1 rfl ?_
                have c71 := H.1; replace H := H.2
                refine wp_cV (d - 1) 2 [.int v1, .int (1 : Int32)] [.int ((mOf (h 89) v1 (0 : Int32)) + v5), .int (2 : Int32), .int v1, .ref 88] 162 dX8_sails_159 rfl (lk_X8_146 rfl) (by omega) kd_88 rfl rfl rfl (Nat.le_of_ble_eq_true rfl) (sp_X8_of (by omega) c71 ?_)
                refine wp_icmp_ne 169 165 dX8_sails_162 rfl rfl ⟨fun c72 => ?_, fun c72 => ?_⟩
                · replace H := H.1 c72
                  refine wp_iload 171 dX8_sails_169 rfl rfl ?_
                  refine wp_if_eq 178 174 dX8_sails_171 rfl rfl ⟨fun c => absurd c (by decide), fun c => ?_⟩
                  refine wp_iconst (1 : Int32) 175 dX8_sails_174 kiconst_1 rfl ?_
                  refine wp_goto 179 dX8_sails_175 rfl ?_
                  have c73 := H.1; replace H := H.2
                  refine wp_cV (d - 1) 3 [.int v1, .int (2 : Int32), .int (1 : Int32)] [] 182 dX8_sails_179 rfl (lk_X8_142 rfl) (by omega) kd_88 rfl rfl rfl (Nat.le_of_ble_eq_true rfl) (sp_X8_lays1 (by omega) c73 (fun h74 eh74 => ?_))
                  replace H := H h74 eh74
                  refine wp_iinc (-1 : Int32) 185 dX8_sails_182 rfl rfl kiconst_m1 (Nat.le_of_ble_eq_true rfl) rfl ?_
                  refine wp_goto 24 dX8_sails_185 rfl ?_
                  refine wp_drop 6 ?_
                  refine wp_drop 7 ?_
                  refine wp_drop 8 ?_
                  refine wp_drop 9 ?_
                  exact H
                · replace H := H.2 c72
                  refine wp_iconst (2 : Int32) 166 dX8_sails_165 kiconst_2 rfl ?_
                  refine wp_goto 179 dX8_sails_166 rfl ?_
                  have c75 := H.1; replace H := H.2
                  refine wp_cV (d - 1) 3 [.int v1, .int (2 : Int32), .int (2 : Int32)] [] 182 dX8_sails_179 rfl (lk_X8_142 rfl) (by omega) kd_88 rfl rfl rfl (Nat.le_of_ble_eq_true rfl) (sp_X8_lays1 (by omega) c75 (fun h76 eh76 => ?_))
                  replace H := H h76 eh76
                  refine wp_iinc (-1 : Int32) 185 dX8_sails_182 rfl rfl kiconst_m1 (Nat.le_of_ble_eq_true rfl) rfl ?_
                  refine wp_goto 24 dX8_sails_185 rfl ?_
                  refine wp_drop 6 ?_
                  refine wp_drop 7 ?_
                  refine wp_drop 8 ?_
                  refine wp_drop 9 ?_
                  exact H
            · replace H := H.2 c60
              refine wp_iconst (1 : Int32) 97 dX8_sails_96 kiconst_1 rfl ?_
              refine wp_goto 101 dX8_sails_97 rfl ?_
              refine wp_istore 103 dX8_sails_101 rfl (Nat.le_of_ble_eq_true rfl) rfl ?_
              refine wp_iload 105 dX8_sails_103 rfl rfl ?_
              refine wp_if_ne 113 108 dX8_sails_105 rfl rfl ⟨fun c => ?_, fun c => absurd c (by decide)⟩
              refine wp_aload_n 114 dX8_sails_113 rfl rfl ?_
              refine wp_iload_n 115 dX8_sails_114 rfl rfl ?_
              refine wp_iconst (0 : Int32) 116 dX8_sails_115 kiconst_0 rfl ?_
              refine wp_iload 118 dX8_sails_116 rfl rfl ?_
              refine wp_iload 120 dX8_sails_118 rfl rfl ?_
              refine wp_iadd 121 dX8_sails_120 rfl ?_
              have c77 := H.1; replace H := H.2
              refine wp_cV (d - 1) 3 [.int v1, .int (0 : Int32), .int ((mOf (h 89) v1 (0 : Int32)) + v5)] [] 124 dX8_sails_121 rfl (lk_X8_142 rfl) (by omega) kd_88 rfl rfl rfl (Nat.le_of_ble_eq_true rfl) (sp_X8_lays1 (by omega) c77 (fun h78 eh78 => ?_))
              replace H := H h78 eh78
              refine wp_aload_n 125 dX8_sails_124 rfl rfl ?_
              refine wp_getR 1 89 128 dX8_sails_125 rfl fl_X8_7 kd_88 rfl rfl rfl rfl ?_
              refine wp_bipush (8 : Int32) 130 dX8_sails_128 kbipush_8 rfl ?_
              refine wp_iload 132 dX8_sails_130 rfl rfl ?_
              refine wp_iadd 133 dX8_sails_132 rfl ?_
              refine wp_iload 135 dX8_sails_133 rfl rfl ?_
              refine wp_iadd 136 dX8_sails_135 rfl ?_
              have c79 := H.1; replace H := H.2
              refine wp_iald 137 dX8_sails_136 rfl kd_89 c79 ?_
              refine wp_iconst (1 : Int32) 138 dX8_sails_137 kiconst_1 rfl ?_
              refine wp_icmp_ne 145 141 dX8_sails_138 rfl rfl ⟨fun c80 => ?_, fun c80 => ?_⟩
              · replace H := H.1 c80
                refine wp_iconst (0 : Int32) 146 dX8_sails_145 kiconst_0 rfl ?_
                refine wp_istore 148 dX8_sails_146 rfl (Nat.le_of_ble_eq_true rfl) rfl ?_
                refine wp_aload_n 149 dX8_sails_148 rfl rfl ?_
                refine wp_iload_n 150 dX8_sails_149 rfl rfl ?_
                refine wp_iconst (2 : Int32) 151 dX8_sails_150 kiconst_2 rfl ?_
                refine wp_iload 153 dX8_sails_151 rfl rfl ?_
                refine wp_iload 155 dX8_sails_153 rfl rfl ?_
                refine wp_iadd 156 dX8_sails_155 rfl ?_
                refine wp_aload_n 157 dX8_sails_156 rfl rfl ?_
                refine wp_iload_n 158 dX8_sails_157 rfl rfl ?_
                refine wp_iconst (1 : Int32) 159 dX8_sails_158 kiconst_1 rfl ?_
                have c81 := H.1; replace H := H.2
                refine wp_cV (d - 1) 2 [.int v1, .int (1 : Int32)] [.int ((mOf (h 89) v1 (0 : Int32)) + v5), .int (2 : Int32), .int v1, .ref 88] 162 dX8_sails_159 rfl (lk_X8_146 rfl) (by omega) kd_88 rfl rfl rfl (Nat.le_of_ble_eq_true rfl) (sp_X8_of (by omega) c81 ?_)
                refine wp_icmp_ne 169 165 dX8_sails_162 rfl rfl ⟨fun c82 => ?_, fun c82 => ?_⟩
                · replace H := H.1 c82
                  refine wp_iload 171 dX8_sails_169 rfl rfl ?_
                  refine wp_if_eq 178 174 dX8_sails_171 rfl rfl ⟨fun c => ?_, fun c => absurd (by decide) c⟩
                  refine wp_iconst (0 : Int32) 179 dX8_sails_178 kiconst_0 rfl ?_
                  have c83 := H.1; replace H := H.2
                  refine wp_cV (d - 1) 3 [.int v1, .int (2 : Int32), .int (0 : Int32)] [] 182 dX8_sails_179 rfl (lk_X8_142 rfl) (by omega) kd_88 rfl rfl rfl (Nat.le_of_ble_eq_true rfl) (sp_X8_lays1 (by omega) c83 (fun h84 eh84 => ?_))
                  replace H := H h84 eh84
                  refine wp_iinc (-1 : Int32) 185 dX8_sails_182 rfl rfl kiconst_m1 (Nat.le_of_ble_eq_true rfl) rfl ?_
                  refine wp_goto 24 dX8_sails_185 rfl ?_
                  refine wp_drop 6 ?_
                  refine wp_drop 7 ?_
                  refine wp_drop 8 ?_
                  refine wp_drop 9 ?_
                  exact H
                · replace H := H.2 c82
                  refine wp_iconst (2 : Int32) 166 dX8_sails_165 kiconst_2 rfl ?_
                  refine wp_goto 179 dX8_sails_166 rfl ?_
                  have c85 := H.1; replace H := H.2
                  refine wp_cV (d - 1) 3 [.int v1, .int (2 : Int32), .int (2 : Int32)] [] 182 dX8_sails_179 rfl (lk_X8_142 rfl) (by omega) kd_88 rfl rfl rfl (Nat.le_of_ble_eq_true rfl) (sp_X8_lays1 (by omega) c85 (fun h86 eh86 => ?_))
                  replace H := H h86 eh86
                  refine wp_iinc (-1 : Int32) 185 dX8_sails_182 rfl rfl kiconst_m1 (Nat.le_of_ble_eq_true rfl) rfl ?_
                  refine wp_goto 24 dX8_sails_185 rfl ?_
                  refine wp_drop 6 ?_
                  refine wp_drop 7 ?_
                  refine wp_drop 8 ?_
                  refine wp_drop 9 ?_
                  exact H
              · replace H := H.2 c80
                refine wp_iconst (1 : Int32) 142 dX8_sails_141 kiconst_1 rfl ?_
                refine wp_goto 146 dX8_sails_142 rfl ?_
                refine wp_istore 148 dX8_sails_146 rfl (Nat.le_of_ble_eq_true rfl) rfl ?_
                refine wp_aload_n 149 dX8_sails_148 rfl rfl ?_
                refine wp_iload_n 150 dX8_sails_149 rfl rfl ?_
                refine wp_iconst (2 : Int32) 151 dX8_sails_150 kiconst_2 rfl ?_
                refine wp_iload 153 dX8_sails_151 rfl rfl ?_
                refine wp_iload 155 dX8_sails_153 rfl rfl ?_
                refine wp_iadd 156 dX8_sails_155 rfl ?_
                refine wp_aload_n 157 dX8_sails_156 rfl rfl ?_
                refine wp_iload_n 158 dX8_sails_157 rfl rfl ?_
                refine wp_iconst (1 : Int32) 159 dX8_sails_158 kiconst_1 rfl ?_
                have c87 := H.1; replace H := H.2
                refine wp_cV (d - 1) 2 [.int v1, .int (1 : Int32)] [.int ((mOf (h 89) v1 (0 : Int32)) + v5), .int (2 : Int32), .int v1, .ref 88] 162 dX8_sails_159 rfl (lk_X8_146 rfl) (by omega) kd_88 rfl rfl rfl (Nat.le_of_ble_eq_true rfl) (sp_X8_of (by omega) c87 ?_)
                refine wp_icmp_ne 169 165 dX8_sails_162 rfl rfl ⟨fun c88 => ?_, fun c88 => ?_⟩
                · replace H := H.1 c88
                  refine wp_iload 171 dX8_sails_169 rfl rfl ?_
                  refine wp_if_eq 178 174 dX8_sails_171 rfl rfl ⟨fun c => absurd c (by decide), fun c => ?_⟩
                  refine wp_iconst (1 : Int32) 175 dX8_sails_174 kiconst_1 rfl ?_
                  refine wp_goto 179 dX8_sails_175 rfl ?_
                  have c89 := H.1; replace H := H.2
                  refine wp_cV (d - 1) 3 [.int v1, .int (2 : Int32), .int (1 : Int32)] [] 182 dX8_sails_179 rfl (lk_X8_142 rfl) (by omega) kd_88 rfl rfl rfl (Nat.le_of_ble_eq_true rfl) (sp_X8_lays1 (by omega) c89 (fun h90 eh90 => ?_))
                  replace H := H h90 eh90
                  refine wp_iinc (-1 : Int32) 185 dX8_sails_182 rfl rfl kiconst_m1 (Nat.le_of_ble_eq_true rfl) rfl ?_
                  refine wp_goto 24 dX8_sails_185 rfl ?_
                  refine wp_drop 6 ?_
                  refine wp_drop 7 ?_
                  refine wp_drop 8 ?_
                  refine wp_drop 9 ?_
                  exact H
                · replace H := H.2 c88
                  refine wp_iconst (2 : Int32) 166 dX8_sails_165 kiconst_2 rfl ?_
                  refine wp_goto 179 dX8_sails_166 rfl ?_
                  have c91 := H.1; replace H := H.2
                  refine wp_cV (d - 1) 3 [.int v1, .int (2 : Int32), .int (2 : Int32)] [] 182 dX8_sails_179 rfl (lk_X8_142 rfl) (by omega) kd_88 rfl rfl rfl (Nat.le_of_ble_eq_true rfl) (sp_X8_lays1 (by omega) c91 (fun h92 eh92 => ?_))
                  replace H := H h92 eh92
                  refine wp_iinc (-1 : Int32) 185 dX8_sails_182 rfl rfl kiconst_m1 (Nat.le_of_ble_eq_true rfl) rfl ?_
                  refine wp_goto 24 dX8_sails_185 rfl ?_
                  refine wp_drop 6 ?_
                  refine wp_drop 7 ?_
                  refine wp_drop 8 ?_
                  refine wp_drop 9 ?_
                  exact H

/-- only one ship's cell and state in the model's row differ -/
def kMv (h h' : kM) (p : Nat) (x : Nat × Nat) : Prop := (∀ a, a ≠ 89 → h' a = h a) ∧ (∀ j, j ≠ 72 + 3 * p → j ≠ 74 + 3 * p → h' 89 j = h 89 j) ∧ h' 89 (72 + 3 * p) = nI x.1 ∧ h' 89 (74 + 3 * p) = nI x.2
def kVS (ax : Nat) (neg : Bool) : Int32 := if ax = 0 then (if neg then -1 else 1) else (if neg then -8 else 8)
def kVT (ax : Nat) : Int32 := if ax = 0 then 1 else 8
theorem mdir_0p : ∀ c, c < 64 → (kNx 0 false c = none → ¬ (nI c + 1 + 8) / 8 = nI c / 8 + 1) ∧ ((kNx 0 false c).isSome = true → (nI c + 1 + 8) / 8 = nI c / 8 + 1 ∧ nI c + 1 = nI ((kNx 0 false c).getD 0) ∧ 8 + nI c + 1 = nI (8 + (kNx 0 false c).getD 0)) := by decide +kernel
theorem mdir_0n : ∀ c, c < 64 → (kNx 0 true c = none → ¬ (nI c + (-1) + 8) / 8 = nI c / 8 + 1) ∧ ((kNx 0 true c).isSome = true → (nI c + (-1) + 8) / 8 = nI c / 8 + 1 ∧ nI c + (-1) = nI ((kNx 0 true c).getD 0) ∧ 8 + nI c + (-1) = nI (8 + (kNx 0 true c).getD 0)) := by decide +kernel
theorem mdir_1p : ∀ c, c < 64 → (kNx 1 false c = none → ¬ (0 ≤ nI c + 8 ∧ nI c + 8 ≤ 63)) ∧ ((kNx 1 false c).isSome = true → (0 ≤ nI c + 8 ∧ nI c + 8 ≤ 63) ∧ nI c + 8 = nI ((kNx 1 false c).getD 0) ∧ 8 + nI c + 8 = nI (8 + (kNx 1 false c).getD 0)) := by decide +kernel
theorem mdir_1n : ∀ c, c < 64 → (kNx 1 true c = none → ¬ (0 ≤ nI c + (-8) ∧ nI c + (-8) ≤ 63)) ∧ ((kNx 1 true c).isSome = true → (0 ≤ nI c + (-8) ∧ nI c + (-8) ≤ 63) ∧ nI c + (-8) = nI ((kNx 1 true c).getD 0) ∧ 8 + nI c + (-8) = nI (8 + (kNx 1 true c).getD 0)) := by decide +kernel
theorem mLay_0 {h : kM} {p : Nat} {x : Int32} (hp : p < 5) : mLay h (nI p) 0 x = kU h 89 (72 + 3 * p) x := mLay_n (w := 0) hp (by decide)
theorem mLay_1 {h : kM} {p : Nat} {x : Int32} (hp : p < 5) : mLay h (nI p) 1 x = kU h 89 (73 + 3 * p) x := (mLay_n (w := 1) hp (by decide)).trans (by rw [show 72 + 3 * p + 1 = 73 + 3 * p by omega])
theorem mLay_2 {h : kM} {p : Nat} {x : Int32} (hp : p < 5) : mLay h (nI p) 2 x = kU h 89 (74 + 3 * p) x := (mLay_n (w := 2) hp (by decide)).trans (by rw [show 72 + 3 * p + 2 = 74 + 3 * p by omega])
theorem kMv.set {h h1 h2 h3 : kM} {p c s : Nat} {x : Nat × Nat} (hm : kMv h h1 p x) (e2 : h2 = kU h1 89 (72 + 3 * p) (nI c)) (e3 : h3 = kU h2 89 (74 + 3 * p) (nI s)) : kMv h h3 p (c, s) := by
  obtain ⟨m1, m2, m3, m4⟩ := hm
  refine ⟨fun a ha => by rw [e3, kU_ne ha, e2, kU_ne ha]; exact m1 a ha, fun j h1 h2 => by rw [e3, kU_eq, pk_un h2, e2, kU_eq, pk_un h1]; exact m2 j h1 h2, ?_, ?_⟩
  · rw [e3, kU_eq, pk_un (by omega), e2, kU_eq, pk_us]
  · rw [e3, kU_eq, pk_us]
theorem lp_sails (hd : 3 ≤ d) {a2 : Int32} {p q : Nat} (hp : p < 5) (hq : q < 64) {la : Nat → Int32} (hla : ∀ c, c < 64 → h 89 (8 + c) = la c) (hport : h 89 (73 + 3 * p) = nI q) {ax : Nat} (hax : ax < 2) (neg : Bool) : ∀ (m : Nat) (x : Nat × Nat) (h1 : kM), m < 2 ^ 31 → kMv h h1 p x → x.1 < 64 → x.2 < 3 → (∀ h2, kMv h h2 p (kSl la q ax neg m x) → Q 0 h2) → at_X8_sails_24 G d Q (nI p) a2 (kVT ax) (nI m) (kVS ax neg) h1 := by
  intro m
  induction m with
  | zero =>
    intro x h1 _ hm _ _ hq
    exact sg_X8_sails_24 hd ⟨fun _ => hq h1 hm, fun z => absurd (by decide) z⟩
  | succ m ih =>
    intro x h1 hml hm hx1 hx2 hq'
    obtain ⟨c, s⟩ := x
    have hx1 : c < 64 := hx1
    have hx2 : s < 3 := hx2
    obtain ⟨m1, m2, m3, m4⟩ := id hm
    have o0 : okO (nI p) 0 := okO_n (w := 0) hp (by decide)
    have o1 : okO (nI p) 1 := okO_n (w := 1) hp (by decide)
    have o2 : okO (nI p) 2 := okO_n (w := 2) hp (by decide)
    refine sg_X8_sails_24 hd ⟨fun z => absurd z (nI_nle (by omega) hml), fun _ => ⟨o2, ?_⟩⟩
    rw [mOf_2 hp, mOf_0 hp, m4, m3, pk_m1]
    refine ⟨fun z => ?_, fun z => ⟨o0, ?_⟩⟩
    · have hs0 : ¬ s = 0 := fun e => z (by rw [e]; rfl)
      rw [kSl_done (x := (c, s)) hs0] at hq'
      exact hq' h1 hm
    have hs0 : s = 0 := by
      by_cases e : s = 0
      · exact e
      · exact absurd z (nI_ne0 (by omega) (by omega))
    subst hs0
    have stay : kNx ax neg c = none → at_X8_sails_24 G d Q (nI p) a2 (kVT ax) (nI m) (kVS ax neg) h1 := fun e => by
      refine ih (c, 0) h1 (by omega) hm hx1 (show 0 < 3 by decide) ?_
      rw [kSl_stop (x := (c, 0)) e] at hq' ⊢
      exact hq'
    have move : ∀ c', kNx ax neg c = some c' → ∀ y z : Int32, y = nI c' → z = nI (8 + c') → okO (nI p) 0 ∧ ∀ hA : kM, hA = mLay h1 (nI p) 0 y → vp_in z 481 ∧ ((¬ hA 89 z.toNatClampNeg = 1 → okO (nI p) 1 ∧ ((¬ y = mOf (hA 89) (nI p) 1 → okO (nI p) 2 ∧ ∀ hB : kM, hB = mLay hA (nI p) 2 0 → at_X8_sails_24 G d Q (nI p) a2 (kVT ax) (nI m) (kVS ax neg) hB) ∧ (y = mOf (hA 89) (nI p) 1 → okO (nI p) 2 ∧ ∀ hB : kM, hB = mLay hA (nI p) 2 2 → at_X8_sails_24 G d Q (nI p) a2 (kVT ax) (nI m) (kVS ax neg) hB))) ∧ (hA 89 z.toNatClampNeg = 1 → okO (nI p) 1 ∧ ((¬ y = mOf (hA 89) (nI p) 1 → okO (nI p) 2 ∧ ∀ hB : kM, hB = mLay hA (nI p) 2 1 → at_X8_sails_24 G d Q (nI p) a2 (kVT ax) (nI m) (kVS ax neg) hB) ∧ (y = mOf (hA 89) (nI p) 1 → okO (nI p) 2 ∧ ∀ hB : kM, hB = mLay hA (nI p) 2 2 → at_X8_sails_24 G d Q (nI p) a2 (kVT ax) (nI m) (kVS ax neg) hB)))) := by
      intro c' e2 y z hy hz
      have hc' := kNx_lt hx1 e2
      refine ⟨o0, fun hA eA => ⟨by rw [hz]; exact vp_in_nI (by omega) (by decide), ?_⟩⟩
      rw [mLay_0 hp, hy] at eA
      have gA : ∀ j, j ≠ 72 + 3 * p → j ≠ 74 + 3 * p → hA 89 j = h 89 j := fun j x1 x2 => by rw [eA, kU_eq, pk_un x1]; exact m2 j x1 x2
      rw [hz, nI_clamp (by omega), gA (8 + c') (by omega) (by omega), hla c' hc', mOf_1 hp, gA (73 + 3 * p) (by omega) (by omega), hport, hy]
      have fin : ∀ (hB : kM) (t : Nat), hB = kU hA 89 (74 + 3 * p) (nI t) → t = kSta la q c' → at_X8_sails_24 G d Q (nI p) a2 (kVT ax) (nI m) (kVS ax neg) hB := by
        intro hB t eB ht
        refine ih (c', t) hB (by omega) (hm.set eA eB) hc' (by rw [ht]; exact kSta_lt _ _ _) ?_
        rw [kSl_go (x := (c, 0)) rfl e2] at hq'
        rw [ht]
        exact hq'
      have eqv : nI c' = nI q ↔ c' = q := nI_eq (by omega) (by omega)
      unfold kSta at fin
      refine ⟨fun l0 => ⟨o1, fun n0 => ⟨o2, fun hB eB => ?_⟩, fun n0 => ⟨o2, fun hB eB => ?_⟩⟩, fun l0 => ⟨o1, fun n0 => ⟨o2, fun hB eB => ?_⟩, fun n0 => ⟨o2, fun hB eB => ?_⟩⟩⟩
      · rw [mLay_2 hp] at eB
        exact fin hB 0 eB (by rw [if_neg (fun e => n0 (eqv.mpr e)), if_neg l0])
      · rw [mLay_2 hp] at eB
        exact fin hB 2 eB (by rw [if_pos (eqv.mp n0)])
      · rw [mLay_2 hp] at eB
        exact fin hB 1 eB (by rw [if_neg (fun e => n0 (eqv.mpr e)), if_pos l0])
      · rw [mLay_2 hp] at eB
        exact fin hB 2 eB (by rw [if_pos (eqv.mp n0)])
    have cas : kNx ax neg c = none ∨ ∃ c', kNx ax neg c = some c' := by
      cases kNx ax neg c with
      | none => exact Or.inl rfl
      | some c' => exact Or.inr ⟨c', rfl⟩
    have hax2 : ax = 0 ∨ ax = 1 := by omega
    rcases hax2 with rfl | rfl
    · refine ⟨fun e => absurd rfl e, fun _ => ?_⟩
      cases neg with
      | false =>
        obtain ⟨d1, d2⟩ := mdir_0p c hx1
        refine ⟨fun e => ⟨fun _ => ?_, fun e => absurd e (by decide)⟩, fun e => ⟨fun _ => ?_, fun e => absurd e (by decide)⟩⟩
        · rcases cas with e2 | ⟨c', e2⟩
          · exact stay e2
          · exact absurd (d2 (by rw [e2]; rfl)).1 e
        · rcases cas with e2 | ⟨c', e2⟩
          · exact absurd e (d1 e2)
          · obtain ⟨-, f2, f3⟩ := d2 (by rw [e2]; rfl)
            rw [e2] at f2 f3
            exact move c' e2 _ _ f2 f3
      | true =>
        obtain ⟨d1, d2⟩ := mdir_0n c hx1
        refine ⟨fun e => ⟨fun _ => ?_, fun e => absurd e (by decide)⟩, fun e => ⟨fun _ => ?_, fun e => absurd e (by decide)⟩⟩
        · rcases cas with e2 | ⟨c', e2⟩
          · exact stay e2
          · exact absurd (d2 (by rw [e2]; rfl)).1 e
        · rcases cas with e2 | ⟨c', e2⟩
          · exact absurd e (d1 e2)
          · obtain ⟨-, f2, f3⟩ := d2 (by rw [e2]; rfl)
            rw [e2] at f2 f3
            exact move c' e2 _ _ f2 f3
    · refine ⟨fun _ => ⟨fun e => absurd rfl e, fun _ => ?_⟩, fun e => absurd e (by decide)⟩
      cases neg with
      | false =>
        obtain ⟨d1, d2⟩ := mdir_1p c hx1
        refine ⟨fun e => ?_, fun e => ?_⟩
        · rcases cas with e2 | ⟨c', e2⟩
          · exact stay e2
          · exact absurd (d2 (by rw [e2]; rfl)).1 (kb_0.mp e)
        · rcases cas with e2 | ⟨c', e2⟩
          · exact absurd (kb_n0.mp e) (d1 e2)
          · obtain ⟨-, f2, f3⟩ := d2 (by rw [e2]; rfl)
            rw [e2] at f2 f3
            exact move c' e2 _ _ f2 f3
      | true =>
        obtain ⟨d1, d2⟩ := mdir_1n c hx1
        refine ⟨fun e => ?_, fun e => ?_⟩
        · rcases cas with e2 | ⟨c', e2⟩
          · exact stay e2
          · exact absurd (d2 (by rw [e2]; rfl)).1 (kb_0.mp e)
        · rcases cas with e2 | ⟨c', e2⟩
          · exact absurd (kb_n0.mp e) (d1 e2)
          · obtain ⟨-, f2, f3⟩ := d2 (by rw [e2]; rfl)
            rw [e2] at f2 f3
            exact move c' e2 _ _ f2 f3
theorem sp_X8_sails (hd : 3 ≤ d) {by' : Int32} {p q : Nat} (hp : p < 5) (hq : q < 64) {la : Nat → Int32} (hla : ∀ c, c < 64 → h 89 (8 + c) = la c) (hport : h 89 (73 + 3 * p) = nI q) {ax : Nat} (hax : ax < 2) {x : Nat × Nat} (hm : kMv h h p x) (h1 : x.1 < 64) (h2 : x.2 < 3) (k : ∀ h2, kMv h h2 p (kAl la q ax by' x) → Q 0 h2) : Cal G d m_X8_sails [.ref 88, .int (nI p), .int by', .int (kVT ax)] h Q := by
  unfold kAl at k
  have key : ∀ left : Int32, left = (if by' < 0 then -by' else by') → at_X8_sails_24 G d Q (nI p) by' (kVT ax) left (kVS ax (decide (by' < 0))) h := by
    intro left hl
    rcases kFar_cases by' with ⟨e1, e2⟩ | ⟨m, hml, e1, e2⟩
    · rw [e2] at k
      rw [← hl] at e1
      exact sg_X8_sails_24 hd ⟨fun _ => k h hm, fun z => absurd e1 z⟩
    · rw [e2] at k
      rw [hl, e1]
      exact lp_sails hd hp hq hla hport hax _ m x h hml hm h1 h2 k
  have hax2 : ax = 0 ∨ ax = 1 := by omega
  refine cg_X8_sails hd ⟨fun c => ?_, fun c => ?_⟩
  · have hn : ¬ by' < 0 := len c
    have := key by' (by rw [if_neg hn])
    rw [decide_eq_false hn] at this
    rcases hax2 with rfl | rfl <;> exact this
  · have hn : by' < 0 := nle c
    have := key (-by') (by rw [if_pos hn])
    rw [decide_eq_true hn] at this
    rcases hax2 with rfl | rfl <;> exact this
end MSail

