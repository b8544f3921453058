/-! forces and the wind: the model, said of the view that its row is of -/
section MWind
variable {G : kG} {d : Nat} {Q : Int32 → kM → Prop} {h : kM}
/-- only the rows in which texts are worked out differ -/
def kS2 (h h' : kM) : Prop := ∀ a, a ≠ 95 → a ≠ 96 → h' a = h a
theorem kS2.rf {h : kM} : kS2 h h := fun _ _ _ => rfl
theorem kS2.tr {h h1 h2 : kM} (e1 : kS2 h h1) (e2 : kS2 h1 h2) : kS2 h h2 := fun a x y => (e2 a x y).trans (e1 a x y)
theorem kS2.g {h h1 : kM} (e : kS2 h h1) : h1 89 = h 89 := e 89 (by decide) (by decide)
theorem mIt_0 {g : Nat → Int32} {k : Nat} (hk : k < 15) : mIt g (nI k) 0 = g (87 + 4 * k) := mIt_n (w := 0) hk (by decide)
theorem mIt_1 {g : Nat → Int32} {k : Nat} (hk : k < 15) : mIt g (nI k) 1 = g (88 + 4 * k) := (mIt_n (w := 1) hk (by decide)).trans (congrArg g (by omega))
theorem mIt_2 {g : Nat → Int32} {k : Nat} (hk : k < 15) : mIt g (nI k) 2 = g (89 + 4 * k) := (mIt_n (w := 2) hk (by decide)).trans (congrArg g (by omega))
theorem mIt_3 {g : Nat → Int32} {k : Nat} (hk : k < 15) : mIt g (nI k) 3 = g (90 + 4 * k) := (mIt_n (w := 3) hk (by decide)).trans (congrArg g (by omega))
theorem mOf_0 {g : Nat → Int32} {p : Nat} (hp : p < 5) : mOf g (nI p) 0 = g (72 + 3 * p) := mOf_n (w := 0) hp (by decide)
theorem mOf_1 {g : Nat → Int32} {p : Nat} (hp : p < 5) : mOf g (nI p) 1 = g (73 + 3 * p) := (mOf_n (w := 1) hp (by decide)).trans (congrArg g (by omega))
theorem mOf_2 {g : Nat → Int32} {p : Nat} (hp : p < 5) : mOf g (nI p) 2 = g (74 + 3 * p) := (mOf_n (w := 2) hp (by decide)).trans (congrArg g (by omega))
theorem sg_X8_blowsTold_0 {G : kG} {d : Nat} {Q : Int32 → kM → Prop}  {a1 : Int32} {a2 : Int32} {h : kM} (hd : 4 ≤ d)  (H :
    (okI a1 (1 : Int32)) ∧
    (vp_in (147 + 125 * (0 : Int32)) 481) ∧
    ((¬ (kb (0 < h 89 (147 + 125 * (0 : Int32)).toNatClampNeg)) = 0 →
      ∀ h4 : kM, h4 = kU h 95 104 a2 →
      (okI a1 (2 : Int32)) ∧
      ∀ h6 : kM, h6 = kU h4 95 119 (mIt (h4 89) a1 (2 : Int32)) →
      ∀ h7 : kM, h7 = kU h6 95 109 (mIt (h 89) a1 (1 : Int32)) →
      Cal G (d - 1) m_X8_worked [.ref 88, .int (0 : Int32)] h7 (fun x8 h9 =>
        Q x8 h9
      )
    ) ∧ ((kb (0 < h 89 (147 + 125 * (0 : Int32)).toNatClampNeg)) = 0 →
      (((3 : Int32) ≤ a2 →
        Q (0 : Int32) h
      ) ∧ (¬ ((3 : Int32) ≤ a2) →
        Q (mIt (h 89) a1 (1 : Int32)) h
      ))
    ))) : Wp G d m_X8_blowsTold (kEo G d m_X8_blowsTold Q) 0 [.ref 88, .int a1, .int a2, .null] [] h := by
  refine wp_aload_n 1 dX8_blowsTold_0 rfl rfl ?_
  refine wp_iload_n 2 dX8_blowsTold_1 rfl rfl ?_
  refine wp_iconst (1 : Int32) 3 dX8_blowsTold_2 kiconst_1 rfl ?_
  have c1 := H.1; replace H := H.2
  refine wp_cV (d - 1) 2 [.int a1, .int (1 : Int32)] [] 6 dX8_blowsTold_3 rfl (lk_X8_58 rfl) (by omega) kd_88 rfl rfl rfl (Nat.le_of_ble_eq_true rfl) (sp_X8_its (by omega) c1 ?_)
  refine wp_istore_n 7 dX8_blowsTold_6 rfl (Nat.le_of_ble_eq_true rfl) rfl ?_
  refine wp_aload_n 8 dX8_blowsTold_7 rfl rfl ?_
  refine wp_iconst (0 : Int32) 9 dX8_blowsTold_8 kiconst_0 rfl ?_
  have c2 := H.1; replace H := H.2
  refine wp_cV (d - 1) 1 [.int (0 : Int32)] [] 12 dX8_blowsTold_9 rfl (lk_X8_114 rfl) (by omega) kd_88 rfl rfl rfl (Nat.le_of_ble_eq_true rfl) (sp_X8_hasText (by omega) c2 ?_)
  refine wp_if_ne 26 15 dX8_blowsTold_12 rfl rfl ⟨fun c3 => ?_, fun c3 => ?_⟩
  · replace H := H.1 c3
    refine wp_aload_n 27 dX8_blowsTold_26 rfl rfl ?_
    refine wp_getR 7 95 30 dX8_blowsTold_27 rfl fl_X8_28 kd_88 rfl rfl rfl rfl ?_
    refine wp_bipush (104 : Int32) 32 dX8_blowsTold_30 kbipush_104 rfl ?_
    refine wp_iload_n 33 dX8_blowsTold_32 rfl rfl ?_
    refine wp_iast 34 dX8_blowsTold_33 rfl kd_95 (by unfold vp_in; decide) ?_
    refine wp_nm (fun h4 eh4 => ?_)
    replace H := H h4 eh4
    refine wp_aload_n 35 dX8_blowsTold_34 rfl rfl ?_
    refine wp_getR 7 95 38 dX8_blowsTold_35 rfl fl_X8_28 kd_88 rfl rfl rfl rfl ?_
    refine wp_bipush (119 : Int32) 40 dX8_blowsTold_38 kbipush_119 rfl ?_
    refine wp_aload_n 41 dX8_blowsTold_40 rfl rfl ?_
    refine wp_iload_n 42 dX8_blowsTold_41 rfl rfl ?_
    refine wp_iconst (2 : Int32) 43 dX8_blowsTold_42 kiconst_2 rfl ?_
    have c5 := H.1; replace H := H.2
    refine wp_cV (d - 1) 2 [.int a1, .int (2 : Int32)] [.int (119 : Int32), .ref 95] 46 dX8_blowsTold_43 rfl (lk_X8_58 rfl) (by omega) kd_88 rfl rfl rfl (Nat.le_of_ble_eq_true rfl) (sp_X8_its (by omega) c5 ?_)
    refine wp_iast 47 dX8_blowsTold_46 rfl kd_95 (by unfold vp_in; decide) ?_
    refine wp_nm (fun h6 eh6 => ?_)
    replace H := H h6 eh6
    refine wp_aload_n 48 dX8_blowsTold_47 rfl rfl ?_
    refine wp_getR 7 95 51 dX8_blowsTold_48 rfl fl_X8_28 kd_88 rfl rfl rfl rfl ?_
    refine wp_bipush (109 : Int32) 53 dX8_blowsTold_51 kbipush_109 rfl ?_
    refine wp_iload_n 54 dX8_blowsTold_53 rfl rfl ?_
    refine wp_iast 55 dX8_blowsTold_54 rfl kd_95 (by unfold vp_in; decide) ?_
    refine wp_nm (fun h7 eh7 => ?_)
    replace H := H h7 eh7
    refine wp_aload_n 56 dX8_blowsTold_55 rfl rfl ?_
    refine wp_iconst (0 : Int32) 57 dX8_blowsTold_56 kiconst_0 rfl ?_
    refine wp_cV (d - 1) 1 [.int (0 : Int32)] [] 60 dX8_blowsTold_57 rfl (lk_X8_121 rfl) (by omega) kd_88 rfl rfl rfl (Nat.le_of_ble_eq_true rfl) (H.mono (fun x8 h9 H => ?_))
    exact wp_reti dX8_blowsTold_60 rfl H
  · replace H := H.2 c3
    refine wp_iload_n 16 dX8_blowsTold_15 rfl rfl ?_
    refine wp_iconst (3 : Int32) 17 dX8_blowsTold_16 kiconst_3 rfl ?_
    refine wp_icmp_ge 24 20 dX8_blowsTold_17 rfl rfl ⟨fun c10 => ?_, fun c10 => ?_⟩
    · replace H := H.1 c10
      refine wp_iconst (0 : Int32) 25 dX8_blowsTold_24 kiconst_0 rfl ?_
      exact wp_reti dX8_blowsTold_25 rfl H
    · replace H := H.2 c10
      refine wp_iload_n 21 dX8_blowsTold_20 rfl rfl ?_
      refine wp_goto 25 dX8_blowsTold_21 rfl ?_
      exact wp_reti dX8_blowsTold_25 rfl H

theorem cg_X8_blowsTold {G : kG} {d : Nat} {Q : Int32 → kM → Prop}  {a1 : Int32} {a2 : Int32} {h : kM} (hd : 4 ≤ d)  (H :
    (okI a1 (1 : Int32)) ∧
    (vp_in (147 + 125 * (0 : Int32)) 481) ∧
    ((¬ (kb (0 < h 89 (147 + 125 * (0 : Int32)).toNatClampNeg)) = 0 →
      ∀ h4 : kM, h4 = kU h 95 104 a2 →
      (okI a1 (2 : Int32)) ∧
      ∀ h6 : kM, h6 = kU h4 95 119 (mIt (h4 89) a1 (2 : Int32)) →
      ∀ h7 : kM, h7 = kU h6 95 109 (mIt (h 89) a1 (1 : Int32)) →
      Cal G (d - 1) m_X8_worked [.ref 88, .int (0 : Int32)] h7 (fun x8 h9 =>
        Q x8 h9
      )
    ) ∧ ((kb (0 < h 89 (147 + 125 * (0 : Int32)).toNatClampNeg)) = 0 →
      (((3 : Int32) ≤ a2 →
        Q (0 : Int32) h
      ) ∧ (¬ ((3 : Int32) ≤ a2) →
        Q (mIt (h 89) a1 (1 : Int32)) h
      ))
    ))) : Cal G d m_X8_blowsTold [.ref 88, .int a1, .int a2] h Q :=
  Cal.of [.ref 88, .int a1, .int a2, .null] (by decide +kernel) (Nat.le_of_ble_eq_true rfl) rfl (sg_X8_blowsTold_0 hd  H)

theorem sg_X8_force_0 {G : kG} {d : Nat} {Q : Int32 → kM → Prop}  {a1 : Int32} {h : kM} (hd : 5 ≤ d)  (H :
    (okI a1 3) ∧
    (((kb (mIt (h 89) a1 3 = -1)) = 0 →
      (okI a1 (3 : Int32)) ∧
      (okI a1 (1 : Int32)) ∧
      (((3 : Int32) ≤ ((h 89 1) - (mIt (h 89) a1 (3 : Int32))) →
        (okI a1 (0 : Int32)) ∧
        (((mIt (h 89) a1 (0 : Int32)) = (1 : Int32) →
          Q (mHeld (-(0 : Int32)) (-20 : Int32) (20 : Int32)) h
        ) ∧ (¬ (mIt (h 89) a1 (0 : Int32)) = (1 : Int32) →
        (((mIt (h 89) a1 (0 : Int32)) = (2 : Int32) →
          (((6 : Int32) ≤ ((h 89 1) - (mIt (h 89) a1 (3 : Int32))) →
            Q (mHeld (0 : Int32) (-20 : Int32) (20 : Int32)) h
          ) ∧ (¬ ((6 : Int32) ≤ ((h 89 1) - (mIt (h 89) a1 (3 : Int32)))) →
            Q (mHeld ((mIt (h 89) a1 (1 : Int32)) / (2 : Int32)) (-20 : Int32) (20 : Int32)) h
          ))
        ) ∧ (¬ (mIt (h 89) a1 (0 : Int32)) = (2 : Int32) →
        (((mIt (h 89) a1 (0 : Int32)) = (3 : Int32) →
          Q (mHeld (0 : Int32) (-20 : Int32) (20 : Int32)) h
        ) ∧ (¬ (mIt (h 89) a1 (0 : Int32)) = (3 : Int32) →
        (((mIt (h 89) a1 (0 : Int32)) = (4 : Int32) →
          ((¬ ((h 89 1) - (mIt (h 89) a1 (3 : Int32))) = 0 →
            Q (mHeld (-(0 : Int32)) (-20 : Int32) (20 : Int32)) h
          ) ∧ (((h 89 1) - (mIt (h 89) a1 (3 : Int32))) = 0 →
            Q (mHeld ((-2 : Int32) * (0 : Int32)) (-20 : Int32) (20 : Int32)) h
          ))
        ) ∧ (¬ (mIt (h 89) a1 (0 : Int32)) = (4 : Int32) →
        (((mIt (h 89) a1 (0 : Int32)) = (5 : Int32) →
          (((6 : Int32) ≤ (((h 89 1) - (mIt (h 89) a1 (3 : Int32))) / (2 : Int32)) →
            Q (mHeld (0 : Int32) (-20 : Int32) (20 : Int32)) h
          ) ∧ (¬ ((6 : Int32) ≤ (((h 89 1) - (mIt (h 89) a1 (3 : Int32))) / (2 : Int32))) →
            Q (mHeld ((mIt (h 89) a1 (1 : Int32)) / (2 : Int32)) (-20 : Int32) (20 : Int32)) h
          ))
        ) ∧ (¬ (mIt (h 89) a1 (0 : Int32)) = (5 : Int32) →
        (((mIt (h 89) a1 (0 : Int32)) = (6 : Int32) →
          Cal G (d - 1) m_X8_blowsTold [.ref 88, .int a1, .int ((h 89 1) - (mIt (h 89) a1 (3 : Int32)))] h (fun x15 h16 =>
            Q (mHeld x15 (-20 : Int32) (20 : Int32)) h16
          )
        ) ∧ (¬ (mIt (h 89) a1 (0 : Int32)) = (6 : Int32) →
          Q (mHeld (0 : Int32) (-20 : Int32) (20 : Int32)) h
        ))))))))))))
      ) ∧ (¬ ((3 : Int32) ≤ ((h 89 1) - (mIt (h 89) a1 (3 : Int32)))) →
        (okI a1 (0 : Int32)) ∧
        (((mIt (h 89) a1 (0 : Int32)) = (1 : Int32) →
          Q (mHeld (-(mIt (h 89) a1 (1 : Int32))) (-20 : Int32) (20 : Int32)) h
        ) ∧ (¬ (mIt (h 89) a1 (0 : Int32)) = (1 : Int32) →
        (((mIt (h 89) a1 (0 : Int32)) = (2 : Int32) →
          (((6 : Int32) ≤ ((h 89 1) - (mIt (h 89) a1 (3 : Int32))) →
            Q (mHeld (0 : Int32) (-20 : Int32) (20 : Int32)) h
          ) ∧ (¬ ((6 : Int32) ≤ ((h 89 1) - (mIt (h 89) a1 (3 : Int32)))) →
            Q (mHeld ((mIt (h 89) a1 (1 : Int32)) / (2 : Int32)) (-20 : Int32) (20 : Int32)) h
          ))
        ) ∧ (¬ (mIt (h 89) a1 (0 : Int32)) = (2 : Int32) →
        (((mIt (h 89) a1 (0 : Int32)) = (3 : Int32) →
          Q (mHeld (0 : Int32) (-20 : Int32) (20 : Int32)) h
        ) ∧ (¬ (mIt (h 89) a1 (0 : Int32)) = (3 : Int32) →
        (((mIt (h 89) a1 (0 : Int32)) = (4 : Int32) →
          ((¬ ((h 89 1) - (mIt (h 89) a1 (3 : Int32))) = 0 →
            Q (mHeld (-(mIt (h 89) a1 (1 : Int32))) (-20 : Int32) (20 : Int32)) h
          ) ∧ (((h 89 1) - (mIt (h 89) a1 (3 : Int32))) = 0 →
            Q (mHeld ((-2 : Int32) * (mIt (h 89) a1 (1 : Int32))) (-20 : Int32) (20 : Int32)) h
          ))
        ) ∧ (¬ (mIt (h 89) a1 (0 : Int32)) = (4 : Int32) →
        (((mIt (h 89) a1 (0 : Int32)) = (5 : Int32) →
          (((6 : Int32) ≤ (((h 89 1) - (mIt (h 89) a1 (3 : Int32))) / (2 : Int32)) →
            Q (mHeld (0 : Int32) (-20 : Int32) (20 : Int32)) h
          ) ∧ (¬ ((6 : Int32) ≤ (((h 89 1) - (mIt (h 89) a1 (3 : Int32))) / (2 : Int32))) →
            Q (mHeld ((mIt (h 89) a1 (1 : Int32)) / (2 : Int32)) (-20 : Int32) (20 : Int32)) h
          ))
        ) ∧ (¬ (mIt (h 89) a1 (0 : Int32)) = (5 : Int32) →
        (((mIt (h 89) a1 (0 : Int32)) = (6 : Int32) →
          Cal G (d - 1) m_X8_blowsTold [.ref 88, .int a1, .int ((h 89 1) - (mIt (h 89) a1 (3 : Int32)))] h (fun x27 h28 =>
            Q (mHeld x27 (-20 : Int32) (20 : Int32)) h28
          )
        ) ∧ (¬ (mIt (h 89) a1 (0 : Int32)) = (6 : Int32) →
          Q (mHeld (mIt (h 89) a1 (1 : Int32)) (-20 : Int32) (20 : Int32)) h
        ))))))))))))
      ))
    ) ∧ (¬ ((kb (mIt (h 89) a1 3 = -1)) = 0) →
      Q (0 : Int32) h
    ))) : Wp G d m_X8_force (kEo G d m_X8_force Q) 0 [.ref 88, .int a1, .null, .null, .null, .null] [] h := by
  refine wp_aload_n 1 dX8_force_0 rfl rfl ?_
  refine wp_iload_n 2 dX8_force_1 rfl rfl ?_
  have c1 := H.1; replace H := H.2
  refine wp_cV (d - 1) 1 [.int a1] [] 5 dX8_force_2 rfl (lk_X8_124 rfl) (by omega) kd_88 rfl rfl rfl (Nat.le_of_ble_eq_true rfl) (sp_X8_isTied (by omega) c1 ?_)
  refine wp_if_eq 10 8 dX8_force_5 rfl rfl ⟨fun c2 => ?_, fun c2 => ?_⟩
  · replace H := H.1 c2
    refine wp_aload_n 11 dX8_force_10 rfl rfl ?_
    refine wp_getR 1 89 14 dX8_force_11 rfl fl_X8_7 kd_88 rfl rfl rfl rfl ?_
    refine wp_iconst (1 : Int32) 15 dX8_force_14 kiconst_1 rfl ?_
    refine wp_iald 16 dX8_force_15 rfl kd_89 (by unfold vp_in; decide) ?_
    refine wp_aload_n 17 dX8_force_16 rfl rfl ?_
    refine wp_iload_n 18 dX8_force_17 rfl rfl ?_
    refine wp_iconst (3 : Int32) 19 dX8_force_18 kiconst_3 rfl ?_
    have c3 := H.1; replace H := H.2
    refine wp_cV (d - 1) 2 [.int a1, .int (3 : Int32)] [.int (h 89 1)] 22 dX8_force_19 rfl (lk_X8_58 rfl) (by omega) kd_88 rfl rfl rfl (Nat.le_of_ble_eq_true rfl) (sp_X8_its (by omega) c3 ?_)
    refine wp_isub 23 dX8_force_22 rfl ?_
    refine wp_istore_n 24 dX8_force_23 rfl (Nat.le_of_ble_eq_true rfl) rfl ?_
    refine wp_aload_n 25 dX8_force_24 rfl rfl ?_
    refine wp_iload_n 26 dX8_force_25 rfl rfl ?_
    refine wp_iconst (1 : Int32) 27 dX8_force_26 kiconst_1 rfl ?_
    have c4 := H.1; replace H := H.2
    refine wp_cV (d - 1) 2 [.int a1, .int (1 : Int32)] [] 30 dX8_force_27 rfl (lk_X8_58 rfl) (by omega) kd_88 rfl rfl rfl (Nat.le_of_ble_eq_true rfl) (sp_X8_its (by omega) c4 ?_)
    refine wp_istore_n 31 dX8_force_30 rfl (Nat.le_of_ble_eq_true rfl) rfl ?_
    refine wp_iload_n 32 dX8_force_31 rfl rfl ?_
    refine wp_iconst (3 : Int32) 33 dX8_force_32 kiconst_3 rfl ?_
    refine wp_icmp_ge 40 36 dX8_force_33 rfl rfl ⟨fun c5 => ?_, fun c5 => ?_⟩
    · replace H := H.1 c5
      refine wp_iconst (0 : Int32) 41 dX8_force_40 kiconst_0 rfl ?_
      refine wp_istore 43 dX8_force_41 rfl (Nat.le_of_ble_eq_true rfl) rfl ?_
      refine wp_iload 45 dX8_force_43 rfl rfl ?_
      refine wp_istore 47 dX8_force_45 rfl (Nat.le_of_ble_eq_true rfl) rfl ?_
      refine wp_aload_n 48 dX8_force_47 rfl rfl ?_
      refine wp_iload_n 49 dX8_force_48 rfl rfl ?_
      refine wp_iconst (0 : Int32) 50 dX8_force_49 kiconst_0 rfl ?_
      have c6 := H.1; replace H := H.2
      refine wp_cV (d - 1) 2 [.int a1, .int (0 : Int32)] [] 53 dX8_force_50 rfl (lk_X8_58 rfl) (by omega) kd_88 rfl rfl rfl (Nat.le_of_ble_eq_true rfl) (sp_X8_its (by omega) c6 ?_)
      refine wp_table 175 [((1 : Int32), 92), ((2 : Int32), 100), ((3 : Int32), 118), ((4 : Int32), 124), ((5 : Int32), 144), ((6 : Int32), 164)] dX8_force_53 rfl (by decide) ?_
      refine ⟨fun c7 => ?_, fun c7 => ?_⟩
      · replace H := H.1 c7
        refine wp_iload 94 dX8_force_92 rfl rfl ?_
        refine wp_ineg 95 dX8_force_94 rfl ?_
        refine wp_istore 97 dX8_force_95 rfl (Nat.le_of_ble_eq_true rfl) rfl ?_
        refine wp_goto 175 dX8_force_97 rfl ?_
        refine wp_iload 177 dX8_force_175 rfl rfl ?_
        refine wp_bipush (-20 : Int32) 179 dX8_force_177 kbipush_m20 rfl ?_
        refine wp_bipush (20 : Int32) 181 dX8_force_179 kbipush_20 rfl ?_
        refine wp_cS (d - 1) 3 [.int (-(0 : Int32)), .int (-20 : Int32), .int (20 : Int32)] [] 184 dX8_force_181 rfl (lk_X8_130 rfl) (by omega) rfl rfl (Nat.le_of_ble_eq_true rfl) (sp_X8_held (by omega)  ?_)
        exact wp_reti dX8_force_184 rfl H
      · replace H := H.2 c7
        refine ⟨fun c9 => ?_, fun c9 => ?_⟩
        · replace H := H.1 c9
          refine wp_iload_n 101 dX8_force_100 rfl rfl ?_
          refine wp_bipush (6 : Int32) 103 dX8_force_101 kbipush_6 rfl ?_
          refine wp_icmp_ge 112 106 dX8_force_103 rfl rfl ⟨fun c8 => ?_, fun c8 => ?_⟩
          · replace H := H.1 c8
            refine wp_iconst (0 : Int32) 113 dX8_force_112 kiconst_0 rfl ?_
            refine wp_istore 115 dX8_force_113 rfl (Nat.le_of_ble_eq_true rfl) rfl ?_
            refine wp_goto 175 dX8_force_115 rfl ?_
            refine wp_iload 177 dX8_force_175 rfl rfl ?_
            refine wp_bipush (-20 : Int32) 179 dX8_force_177 kbipush_m20 rfl ?_
            refine wp_bipush (20 : Int32) 181 dX8_force_179 kbipush_20 rfl ?_
            refine wp_cS (d - 1) 3 [.int (0 : Int32), .int (-20 : Int32), .int (20 : Int32)] [] 184 dX8_force_181 rfl (lk_X8_130 rfl) (by omega) rfl rfl (Nat.le_of_ble_eq_true rfl) (sp_X8_held (by omega)  ?_)
            exact wp_reti dX8_force_184 rfl H
          · replace H := H.2 c8
            refine wp_iload_n 107 dX8_force_106 rfl rfl ?_
            refine wp_iconst (2 : Int32) 108 dX8_force_107 kiconst_2 rfl ?_
            refine wp_idiv 109 dX8_force_108 (by decide) rfl ?_
            refine wp_goto 113 dX8_force_109 rfl ?_
            refine wp_istore 115 dX8_force_113 rfl (Nat.le_of_ble_eq_true rfl) rfl ?_
            refine wp_goto 175 dX8_force_115 rfl ?_
            refine wp_iload 177 dX8_force_175 rfl rfl ?_
            refine wp_bipush (-20 : Int32) 179 dX8_force_177 kbipush_m20 rfl ?_
            refine wp_bipush (20 : Int32) 181 dX8_force_179 kbipush_20 rfl ?_
            refine wp_cS (d - 1) 3 [.int ((mIt (h 89) a1 (1 : Int32)) / (2 : Int32)), .int (-20 : Int32), .int (20 : Int32)] [] 184 dX8_force_181 rfl (lk_X8_130 rfl) (by omega) rfl rfl (Nat.le_of_ble_eq_true rfl) (sp_X8_held (by omega)  ?_)
            exact wp_reti dX8_force_184 rfl H
        · replace H := H.2 c9
          refine ⟨fun c10 => ?_, fun c10 => ?_⟩
          · replace H := H.1 c10
            refine wp_iconst (0 : Int32) 119 dX8_force_118 kiconst_0 rfl ?_
            refine wp_istore 121 dX8_force_119 rfl (Nat.le_of_ble_eq_true rfl) rfl ?_
            refine wp_goto 175 dX8_force_121 rfl ?_
            refine wp_iload 177 dX8_force_175 rfl rfl ?_
            refine wp_bipush (-20 : Int32) 179 dX8_force_177 kbipush_m20 rfl ?_
            refine wp_bipush (20 : Int32) 181 dX8_force_179 kbipush_20 rfl ?_
            refine wp_cS (d - 1) 3 [.int (0 : Int32), .int (-20 : Int32), .int (20 : Int32)] [] 184 dX8_force_181 rfl (lk_X8_130 rfl) (by omega) rfl rfl (Nat.le_of_ble_eq_true rfl) (sp_X8_held (by omega)  ?_)
            exact wp_reti dX8_force_184 rfl H
          · replace H := H.2 c10
            refine ⟨fun c12 => ?_, fun c12 => ?_⟩
            · replace H := H.1 c12
              refine wp_iload_n 125 dX8_force_124 rfl rfl ?_
              refine wp_if_ne 136 128 dX8_force_125 rfl rfl ⟨fun c11 => ?_, fun c11 => ?_⟩
              · replace H := H.1 c11
                refine wp_iload 138 dX8_force_136 rfl rfl ?_
                refine wp_ineg 139 dX8_force_138 rfl ?_
                refine wp_istore 141 dX8_force_139 rfl (Nat.le_of_ble_eq_true rfl) rfl ?_
                refine wp_goto 175 dX8_force_141 rfl ?_
                refine wp_iload 177 dX8_force_175 rfl rfl ?_
                refine wp_bipush (-20 : Int32) 179 dX8_force_177 kbipush_m20 rfl ?_
                refine wp_bipush (20 : Int32) 181 dX8_force_179 kbipush_20 rfl ?_
                refine wp_cS (d - 1) 3 [.int (-(0 : Int32)), .int (-20 : Int32), .int (20 : Int32)] [] 184 dX8_force_181 rfl (lk_X8_130 rfl) (by omega) rfl rfl (Nat.le_of_ble_eq_true rfl) (sp_X8_held (by omega)  ?_)
                exact wp_reti dX8_force_184 rfl H
              · replace H := H.2 c11
                refine wp_bipush (-2 : Int32) 130 dX8_force_128 kbipush_m2 rfl ?_
                refine wp_iload 132 dX8_force_130 rfl rfl ?_
                refine wp_imul 133 dX8_force_132 rfl ?_
                refine wp_goto 139 dX8_force_133 rfl ?_
                refine wp_istore 141 dX8_force_139 rfl (Nat.le_of_ble_eq_true rfl) rfl ?_
                refine wp_goto 175 dX8_force_141 rfl ?_
                refine wp_iload 177 dX8_force_175 rfl rfl ?_
                refine wp_bipush (-20 : Int32) 179 dX8_force_177 kbipush_m20 rfl ?_
                refine wp_bipush (20 : Int32) 181 dX8_force_179 kbipush_20 rfl ?_
                refine wp_cS (d - 1) 3 [.int ((-2 : Int32) * (0 : Int32)), .int (-20 : Int32), .int (20 : Int32)] [] 184 dX8_force_181 rfl (lk_X8_130 rfl) (by omega) rfl rfl (Nat.le_of_ble_eq_true rfl) (sp_X8_held (by omega)  ?_)
                exact wp_reti dX8_force_184 rfl H
            · replace H := H.2 c12
              refine ⟨fun c14 => ?_, fun c14 => ?_⟩
              · replace H := H.1 c14
                refine wp_iload_n 145 dX8_force_144 rfl rfl ?_
                refine wp_iconst (2 : Int32) 146 dX8_force_145 kiconst_2 rfl ?_
                refine wp_idiv 147 dX8_force_146 (by decide) rfl ?_
                refine wp_bipush (6 : Int32) 149 dX8_force_147 kbipush_6 rfl ?_
                refine wp_icmp_ge 158 152 dX8_force_149 rfl rfl ⟨fun c13 => ?_, fun c13 => ?_⟩
                · replace H := H.1 c13
                  refine wp_iconst (0 : Int32) 159 dX8_force_158 kiconst_0 rfl ?_
                  refine wp_istore 161 dX8_force_159 rfl (Nat.le_of_ble_eq_true rfl) rfl ?_
                  refine wp_goto 175 dX8_force_161 rfl ?_
                  refine wp_iload 177 dX8_force_175 rfl rfl ?_
                  refine wp_bipush (-20 : Int32) 179 dX8_force_177 kbipush_m20 rfl ?_
                  refine wp_bipush (20 : Int32) 181 dX8_force_179 kbipush_20 rfl ?_
                  refine wp_cS (d - 1) 3 [.int (0 : Int32), .int (-20 : Int32), .int (20 : Int32)] [] 184 dX8_force_181 rfl (lk_X8_130 rfl) (by omega) rfl rfl (Nat.le_of_ble_eq_true rfl) (sp_X8_held (by omega)  ?_)
                  exact wp_reti dX8_force_184 rfl H
                · replace H := H.2 c13
                  refine wp_iload_n 153 dX8_force_152 rfl rfl ?_
                  refine wp_iconst (2 : Int32) 154 dX8_force_153 kiconst_2 rfl ?_
                  refine wp_idiv 155 dX8_force_154 (by decide) rfl ?_
                  refine wp_goto 159 dX8_force_155 rfl ?_
                  refine wp_istore 161 dX8_force_159 rfl (Nat.le_of_ble_eq_true rfl) rfl ?_
                  refine wp_goto 175 dX8_force_161 rfl ?_
                  refine wp_iload 177 dX8_force_175 rfl rfl ?_
                  refine wp_bipush (-20 : Int32) 179 dX8_force_177 kbipush_m20 rfl ?_
                  refine wp_bipush (20 : Int32) 181 dX8_force_179 kbipush_20 rfl ?_
                  refine wp_cS (d - 1) 3 [.int ((mIt (h 89) a1 (1 : Int32)) / (2 : Int32)), .int (-20 : Int32), .int (20 : Int32)] [] 184 dX8_force_181 rfl (lk_X8_130 rfl) (by omega) rfl rfl (Nat.le_of_ble_eq_true rfl) (sp_X8_held (by omega)  ?_)
                  exact wp_reti dX8_force_184 rfl H
              · replace H := H.2 c14
                refine ⟨fun c17 => ?_, fun c17 => ?_⟩
                · replace H := H.1 c17
                  refine wp_aload_n 165 dX8_force_164 rfl rfl ?_
                  refine wp_iload_n 166 dX8_force_165 rfl rfl ?_
                  refine wp_iload_n 167 dX8_force_166 rfl rfl ?_
                  refine wp_cV (d - 1) 2 [.int a1, .int ((h 89 1) - (mIt (h 89) a1 (3 : Int32)))] [] 170 dX8_force_167 rfl (lk_X8_127 rfl) (by omega) kd_88 rfl rfl rfl (Nat.le_of_ble_eq_true rfl) (H.mono (fun x15 h16 H => ?_))
                  refine wp_istore 172 dX8_force_170 rfl (Nat.le_of_ble_eq_true rfl) rfl ?_
                  refine wp_goto 175 dX8_force_172 rfl ?_
                  refine wp_iload 177 dX8_force_175 rfl rfl ?_
                  refine wp_bipush (-20 : Int32) 179 dX8_force_177 kbipush_m20 rfl ?_
                  refine wp_bipush (20 : Int32) 181 dX8_force_179 kbipush_20 rfl ?_
                  refine wp_cS (d - 1) 3 [.int x15, .int (-20 : Int32), .int (20 : Int32)] [] 184 dX8_force_181 rfl (lk_X8_130 rfl) (by omega) rfl rfl (Nat.le_of_ble_eq_true rfl) (sp_X8_held (by omega)  ?_)
                  exact wp_reti dX8_force_184 rfl H
                · replace H := H.2 c17
                  show Wp _ _ _ _ _ _ _ _
                  refine wp_iload 177 dX8_force_175 rfl rfl ?_
                  refine wp_bipush (-20 : Int32) 179 dX8_force_177 kbipush_m20 rfl ?_
                  refine wp_bipush (20 : Int32) 181 dX8_force_179 kbipush_20 rfl ?_
                  refine wp_cS (d - 1) 3 [.int (0 : Int32), .int (-20 : Int32), .int (20 : Int32)] [] 184 dX8_force_181 rfl (lk_X8_130 rfl) (by omega) rfl rfl (Nat.le_of_ble_eq_true rfl) (sp_X8_held (by omega)  ?_)
                  exact wp_reti dX8_force_184 rfl H
    · replace H := H.2 c5
      refine wp_iload_n 37 dX8_force_36 rfl rfl ?_
      refine wp_goto 41 dX8_force_37 rfl ?_
      refine wp_istore 43 dX8_force_41 rfl (Nat.le_of_ble_eq_true rfl) rfl ?_
      refine wp_iload 45 dX8_force_43 rfl rfl ?_
      refine wp_istore 47 dX8_force_45 rfl (Nat.le_of_ble_eq_true rfl) rfl ?_
      refine wp_aload_n 48 dX8_force_47 rfl rfl ?_
      refine wp_iload_n 49 dX8_force_48 rfl rfl ?_
      refine wp_iconst (0 : Int32) 50 dX8_force_49 kiconst_0 rfl ?_
      have c18 := H.1; replace H := H.2
      refine wp_cV (d - 1) 2 [.int a1, .int (0 : Int32)] [] 53 dX8_force_50 rfl (lk_X8_58 rfl) (by omega) kd_88 rfl rfl rfl (Nat.le_of_ble_eq_true rfl) (sp_X8_its (by omega) c18 ?_)
      refine wp_table 175 [((1 : Int32), 92), ((2 : Int32), 100), ((3 : Int32), 118), ((4 : Int32), 124), ((5 : Int32), 144), ((6 : Int32), 164)] dX8_force_53 rfl (by decide) ?_
      refine ⟨fun c19 => ?_, fun c19 => ?_⟩
      · replace H := H.1 c19
        refine wp_iload 94 dX8_force_92 rfl rfl ?_
        refine wp_ineg 95 dX8_force_94 rfl ?_
        refine wp_istore 97 dX8_force_95 rfl (Nat.le_of_ble_eq_true rfl) rfl ?_
        refine wp_goto 175 dX8_force_97 rfl ?_
        refine wp_iload 177 dX8_force_175 rfl rfl ?_
        refine wp_bipush (-20 : Int32) 179 dX8_force_177 kbipush_m20 rfl ?_
        refine wp_bipush (20 : Int32) 181 dX8_force_179 kbipush_20 rfl ?_
        refine wp_cS (d - 1) 3 [.int (-(mIt (h 89) a1 (1 : Int32))), .int (-20 : Int32), .int (20 : Int32)] [] 184 dX8_force_181 rfl (lk_X8_130 rfl) (by omega) rfl rfl (Nat.le_of_ble_eq_true rfl) (sp_X8_held (by omega)  ?_)
        exact wp_reti dX8_force_184 rfl H
      · replace H := H.2 c19
        refine ⟨fun c21 => ?_, fun c21 => ?_⟩
        · replace H := H.1 c21
          refine wp_iload_n 101 dX8_force_100 rfl rfl ?_
          refine wp_bipush (6 : Int32) 103 dX8_force_101 kbipush_6 rfl ?_
          refine wp_icmp_ge 112 106 dX8_force_103 rfl rfl ⟨fun c20 => ?_, fun c20 => ?_⟩
          · replace H := H.1 c20
            refine wp_iconst (0 : Int32) 113 dX8_force_112 kiconst_0 rfl ?_
            refine wp_istore 115 dX8_force_113 rfl (Nat.le_of_ble_eq_true rfl) rfl ?_
            refine wp_goto 175 dX8_force_115 rfl ?_
            refine wp_iload 177 dX8_force_175 rfl rfl ?_
            refine wp_bipush (-20 : Int32) 179 dX8_force_177 kbipush_m20 rfl ?_
            refine wp_bipush (20 : Int32) 181 dX8_force_179 kbipush_20 rfl ?_
            refine wp_cS (d - 1) 3 [.int (0 : Int32), .int (-20 : Int32), .int (20 : Int32)] [] 184 dX8_force_181 rfl (lk_X8_130 rfl) (by omega) rfl rfl (Nat.le_of_ble_eq_true rfl) (sp_X8_held (by omega)  ?_)
            exact wp_reti dX8_force_184 rfl H
          · replace H := H.2 c20
            refine wp_iload_n 107 dX8_force_106 rfl rfl ?_
            refine wp_iconst (2 : Int32) 108 dX8_force_107 kiconst_2 rfl ?_
            refine wp_idiv 109 dX8_force_108 (by decide) rfl ?_
            refine wp_goto 113 dX8_force_109 rfl ?_
            refine wp_istore 115 dX8_force_113 rfl (Nat.le_of_ble_eq_true rfl) rfl ?_
            refine wp_goto 175 dX8_force_115 rfl ?_
            refine wp_iload 177 dX8_force_175 rfl rfl ?_
            refine wp_bipush (-20 : Int32) 179 dX8_force_177 kbipush_m20 rfl ?_
            refine wp_bipush (20 : Int32) 181 dX8_force_179 kbipush_20 rfl ?_
            refine wp_cS (d - 1) 3 [.int ((mIt (h 89) a1 (1 : Int32)) / (2 : Int32)), .int (-20 : Int32), .int (20 : Int32)] [] 184 dX8_force_181 rfl (lk_X8_130 rfl) (by omega) rfl rfl (Nat.le_of_ble_eq_true rfl) (sp_X8_held (by omega)  ?_)
            exact wp_reti dX8_force_184 rfl H
        · replace H := H.2 c21
          refine ⟨fun c22 => ?_, fun c22 => ?_⟩
          · replace H := H.1 c22
            refine wp_iconst (0 : Int32) 119 dX8_force_118 kiconst_0 rfl ?_
            refine wp_istore 121 dX8_force_119 rfl (Nat.le_of_ble_eq_true rfl) rfl ?_
            refine wp_goto 175 dX8_force_121 rfl ?_
            refine wp_iload 177 dX8_force_175 rfl rfl ?_
            refine wp_bipush (-20 : Int32) 179 dX8_force_177 kbipush_m20 rfl ?_
            refine wp_bipush (20 : Int32) 181 dX8_force_179 kbipush_20 rfl ?_
            refine wp_cS (d - 1) 3 [.int (0 : Int32), .int (-20 : Int32), .int (20 : Int32)] [] 184 dX8_force_181 rfl (lk_X8_130 rfl) (by omega) rfl rfl (Nat.le_of_ble_eq_true rfl) (sp_X8_held (by omega)  ?_)
            exact wp_reti dX8_force_184 rfl H
          · replace H := H.2 c22
            refine ⟨fun c24 => ?_, fun c24 => ?_⟩
            · replace H := H.1 c24
              refine wp_iload_n 125 dX8_force_124 rfl rfl ?_
              refine wp_if_ne 136 128 dX8_force_125 rfl rfl ⟨fun c23 => ?_, fun c23 => ?_⟩
              · replace H := H.1 c23
                refine wp_iload 138 dX8_force_136 rfl rfl ?_
                refine wp_ineg 139 dX8_force_138 rfl ?_
                refine wp_istore 141 dX8_force_139 rfl (Nat.le_of_ble_eq_true rfl) rfl ?_
                refine wp_goto 175 dX8_force_141 rfl ?_
                refine wp_iload 177 dX8_force_175 rfl rfl ?_
                refine wp_bipush (-20 : Int32) 179 dX8_force_177 kbipush_m20 rfl ?_
                refine wp_bipush (20 : Int32) 181 dX8_force_179 kbipush_20 rfl ?_
                refine wp_cS (d - 1) 3 [.int (-(mIt (h 89) a1 (1 : Int32))), .int (-20 : Int32), .int (20 : Int32)] [] 184 dX8_force_181 rfl (lk_X8_130 rfl) (by omega) rfl rfl (Nat.le_of_ble_eq_true rfl) (sp_X8_held (by omega)  ?_)
                exact wp_reti dX8_force_184 rfl H
              · replace H := H.2 c23
                refine wp_bipush (-2 : Int32) 130 dX8_force_128 kbipush_m2 rfl ?_
                refine wp_iload 132 dX8_force_130 rfl rfl ?_
                refine wp_imul 133 dX8_force_132 rfl ?_
                refine wp_goto 139 dX8_force_133 rfl ?_
                refine wp_istore 141 dX8_force_139 rfl (Nat.le_of_ble_eq_true rfl) rfl ?_
                refine wp_goto 175 dX8_force_141 rfl ?_
                refine wp_iload 177 dX8_force_175 rfl rfl ?_
                refine wp_bipush (-20 : Int32) 179 dX8_force_177 kbipush_m20 rfl ?_
                refine wp_bipush (20 : Int32) 181 dX8_force_179 kbipush_20 rfl ?_
                refine wp_cS (d - 1) 3 [.int ((-2 : Int32) * (mIt (h 89) a1 (1 : Int32))), .int (-20 : Int32), .int (20 : Int32)] [] 184 dX8_force_181 rfl (lk_X8_130 rfl) (by omega) rfl rfl (Nat.le_of_ble_eq_true rfl) (sp_X8_held (by omega)  ?_)
                exact wp_reti dX8_force_184 rfl H
            · replace H := H.2 c24
              refine ⟨fun c26 => ?_, fun c26 => ?_⟩
              · replace H := H.1 c26
                refine wp_iload_n 145 dX8_force_144 rfl rfl ?_
                refine wp_iconst (2 : Int32) 146 dX8_force_145 kiconst_2 rfl ?_
                refine wp_idiv 147 dX8_force_146 (by decide) rfl ?_
                refine wp_bipush (6 : Int32) 149 dX8_force_147 kbipush_6 rfl ?_
                refine wp_icmp_ge 158 152 dX8_force_149 rfl rfl ⟨fun c25 => ?_, fun c25 => ?_⟩
                · replace H := H.1 c25
                  refine wp_iconst (0 : Int32) 159 dX8_force_158 kiconst_0 rfl ?_
                  refine wp_istore 161 dX8_force_159 rfl (Nat.le_of_ble_eq_true rfl) rfl ?_
                  refine wp_goto 175 dX8_force_161 rfl ?_
                  refine wp_iload 177 dX8_force_175 rfl rfl ?_
                  refine wp_bipush (-20 : Int32) 179 dX8_force_177 kbipush_m20 rfl ?_
                  refine wp_bipush (20 : Int32) 181 dX8_force_179 kbipush_20 rfl ?_
                  refine wp_cS (d - 1) 3 [.int (0 : Int32), .int (-20 : Int32), .int (20 : Int32)] [] 184 dX8_force_181 rfl (lk_X8_130 rfl) (by omega) rfl rfl (Nat.le_of_ble_eq_true rfl) (sp_X8_held (by omega)  ?_)
                  exact wp_reti dX8_force_184 rfl H
                · replace H := H.2 c25
                  refine wp_iload_n 153 dX8_force_152 rfl rfl ?_
                  refine wp_iconst (2 : Int32) 154 dX8_force_153 kiconst_2 rfl ?_
                  refine wp_idiv 155 dX8_force_154 (by decide) rfl ?_
                  refine wp_goto 159 dX8_force_155 rfl ?_
                  refine wp_istore 161 dX8_force_159 rfl (Nat.le_of_ble_eq_true rfl) rfl ?_
                  refine wp_goto 175 dX8_force_161 rfl ?_
                  refine wp_iload 177 dX8_force_175 rfl rfl ?_
                  refine wp_bipush (-20 : Int32) 179 dX8_force_177 kbipush_m20 rfl ?_
                  refine wp_bipush (20 : Int32) 181 dX8_force_179 kbipush_20 rfl ?_
                  refine wp_cS (d - 1) 3 [.int ((mIt (h 89) a1 (1 : Int32)) / (2 : Int32)), .int (-20 : Int32), .int (20 : Int32)] [] 184 dX8_force_181 rfl (lk_X8_130 rfl) (by omega) rfl rfl (Nat.le_of_ble_eq_true rfl) (sp_X8_held (by omega)  ?_)
                  exact wp_reti dX8_force_184 rfl H
              · replace H := H.2 c26
                refine ⟨fun c29 => ?_, fun c29 => ?_⟩
                · replace H := H.1 c29
                  refine wp_aload_n 165 dX8_force_164 rfl rfl ?_
                  refine wp_iload_n 166 dX8_force_165 rfl rfl ?_
                  refine wp_iload_n 167 dX8_force_166 rfl rfl ?_
                  refine wp_cV (d - 1) 2 [.int a1, .int ((h 89 1) - (mIt (h 89) a1 (3 : Int32)))] [] 170 dX8_force_167 rfl (lk_X8_127 rfl) (by omega) kd_88 rfl rfl rfl (Nat.le_of_ble_eq_true rfl) (H.mono (fun x27 h28 H => ?_))
                  refine wp_istore 172 dX8_force_170 rfl (Nat.le_of_ble_eq_true rfl) rfl ?_
                  refine wp_goto 175 dX8_force_172 rfl ?_
                  refine wp_iload 177 dX8_force_175 rfl rfl ?_
                  refine wp_bipush (-20 : Int32) 179 dX8_force_177 kbipush_m20 rfl ?_
                  refine wp_bipush (20 : Int32) 181 dX8_force_179 kbipush_20 rfl ?_
                  refine wp_cS (d - 1) 3 [.int x27, .int (-20 : Int32), .int (20 : Int32)] [] 184 dX8_force_181 rfl (lk_X8_130 rfl) (by omega) rfl rfl (Nat.le_of_ble_eq_true rfl) (sp_X8_held (by omega)  ?_)
                  exact wp_reti dX8_force_184 rfl H
                · replace H := H.2 c29
                  show Wp _ _ _ _ _ _ _ _
                  refine wp_iload 177 dX8_force_175 rfl rfl ?_
                  refine wp_bipush (-20 : Int32) 179 dX8_force_177 kbipush_m20 rfl ?_
                  refine wp_bipush (20 : Int32) 181 dX8_force_179 kbipush_20 rfl ?_
                  refine wp_cS (d - 1) 3 [.int (mIt (h 89) a1 (1 : Int32)), .int (-20 : Int32), .int (20 : Int32)] [] 184 dX8_force_181 rfl (lk_X8_130 rfl) (by omega) rfl rfl (Nat.le_of_ble_eq_true rfl) (sp_X8_held (by omega)  ?_)
                  exact wp_reti dX8_force_184 rfl H
  · replace H := H.2 c2
    refine wp_iconst (0 : Int32) 9 dX8_force_8 kiconst_0 rfl ?_
    exact wp_reti dX8_force_9 rfl H

theorem cg_X8_force {G : kG} {d : Nat} {Q : Int32 → kM → Prop}  {a1 : Int32} {h : kM} (hd : 5 ≤ d)  (H :
    (okI a1 3) ∧
    (((kb (mIt (h 89) a1 3 = -1)) = 0 →
      (okI a1 (3 : Int32)) ∧
      (okI a1 (1 : Int32)) ∧
      (((3 : Int32) ≤ ((h 89 1) - (mIt (h 89) a1 (3 : Int32))) →
        (okI a1 (0 : Int32)) ∧
        (((mIt (h 89) a1 (0 : Int32)) = (1 : Int32) →
          Q (mHeld (-(0 : Int32)) (-20 : Int32) (20 : Int32)) h
        ) ∧ (¬ (mIt (h 89) a1 (0 : Int32)) = (1 : Int32) →
        (((mIt (h 89) a1 (0 : Int32)) = (2 : Int32) →
          (((6 : Int32) ≤ ((h 89 1) - (mIt (h 89) a1 (3 : Int32))) →
            Q (mHeld (0 : Int32) (-20 : Int32) (20 : Int32)) h
          ) ∧ (¬ ((6 : Int32) ≤ ((h 89 1) - (mIt (h 89) a1 (3 : Int32)))) →
            Q (mHeld ((mIt (h 89) a1 (1 : Int32)) / (2 : Int32)) (-20 : Int32) (20 : Int32)) h
          ))
        ) ∧ (¬ (mIt (h 89) a1 (0 : Int32)) = (2 : Int32) →
        (((mIt (h 89) a1 (0 : Int32)) = (3 : Int32) →
          Q (mHeld (0 : Int32) (-20 : Int32) (20 : Int32)) h
        ) ∧ (¬ (mIt (h 89) a1 (0 : Int32)) = (3 : Int32) →
        (((mIt (h 89) a1 (0 : Int32)) = (4 : Int32) →
          ((¬ ((h 89 1) - (mIt (h 89) a1 (3 : Int32))) = 0 →
            Q (mHeld (-(0 : Int32)) (-20 : Int32) (20 : Int32)) h
          ) ∧ (((h 89 1) - (mIt (h 89) a1 (3 : Int32))) = 0 →
            Q (mHeld ((-2 : Int32) * (0 : Int32)) (-20 : Int32) (20 : Int32)) h
          ))
        ) ∧ (¬ (mIt (h 89) a1 (0 : Int32)) = (4 : Int32) →
        (((mIt (h 89) a1 (0 : Int32)) = (5 : Int32) →
          (((6 : Int32) ≤ (((h 89 1) - (mIt (h 89) a1 (3 : Int32))) / (2 : Int32)) →
            Q (mHeld (0 : Int32) (-20 : Int32) (20 : Int32)) h
          ) ∧ (¬ ((6 : Int32) ≤ (((h 89 1) - (mIt (h 89) a1 (3 : Int32))) / (2 : Int32))) →
            Q (mHeld ((mIt (h 89) a1 (1 : Int32)) / (2 : Int32)) (-20 : Int32) (20 : Int32)) h
          ))
        ) ∧ (¬ (mIt (h 89) a1 (0 : Int32)) = (5 : Int32) →
        (((mIt (h 89) a1 (0 : Int32)) = (6 : Int32) →
          Cal G (d - 1) m_X8_blowsTold [.ref 88, .int a1, .int ((h 89 1) - (mIt (h 89) a1 (3 : Int32)))] h (fun x15 h16 =>
            Q (mHeld x15 (-20 : Int32) (20 : Int32)) h16
          )
        ) ∧ (¬ (mIt (h 89) a1 (0 : Int32)) = (6 : Int32) →
          Q (mHeld (0 : Int32) (-20 : Int32) (20 : Int32)) h
        ))))))))))))
      ) ∧ (¬ ((3 : Int32) ≤ ((h 89 1) - (mIt (h 89) a1 (3 : Int32)))) →
        (okI a1 (0 : Int32)) ∧
        (((mIt (h 89) a1 (0 : Int32)) = (1 : Int32) →
          Q (mHeld (-(mIt (h 89) a1 (1 : Int32))) (-20 : Int32) (20 : Int32)) h
        ) ∧ (¬ (mIt (h 89) a1 (0 : Int32)) = (1 : Int32) →
        (((mIt (h 89) a1 (0 : Int32)) = (2 : Int32) →
          (((6 : Int32) ≤ ((h 89 1) - (mIt (h 89) a1 (3 : Int32))) →
            Q (mHeld (0 : Int32) (-20 : Int32) (20 : Int32)) h
          ) ∧ (¬ ((6 : Int32) ≤ ((h 89 1) - (mIt (h 89) a1 (3 : Int32)))) →
            Q (mHeld ((mIt (h 89) a1 (1 : Int32)) / (2 : Int32)) (-20 : Int32) (20 : Int32)) h
          ))
        ) ∧ (¬ (mIt (h 89) a1 (0 : Int32)) = (2 : Int32) →
        (((mIt (h 89) a1 (0 : Int32)) = (3 : Int32) →
          Q (mHeld (0 : Int32) (-20 : Int32) (20 : Int32)) h
        ) ∧ (¬ (mIt (h 89) a1 (0 : Int32)) = (3 : Int32) →
        (((mIt (h 89) a1 (0 : Int32)) = (4 : Int32) →
          ((¬ ((h 89 1) - (mIt (h 89) a1 (3 : Int32))) = 0 →
            Q (mHeld (-(mIt (h 89) a1 (1 : Int32))) (-20 : Int32) (20 : Int32)) h
          ) ∧ (((h 89 1) - (mIt (h 89) a1 (3 : Int32))) = 0 →
            Q (mHeld ((-2 : Int32) * (mIt (h 89) a1 (1 : Int32))) (-20 : Int32) (20 : Int32)) h
          ))
        ) ∧ (¬ (mIt (h 89) a1 (0 : Int32)) = (4 : Int32) →
        (((mIt (h 89) a1 (0 : Int32)) = (5 : Int32) →
          (((6 : Int32) ≤ (((h 89 1) - (mIt (h 89) a1 (3 : Int32))) / (2 : Int32)) →
            Q (mHeld (0 : Int32) (-20 : Int32) (20 : Int32)) h
          ) ∧ (¬ ((6 : Int32) ≤ (((h 89 1) - (mIt (h 89) a1 (3 : Int32))) / (2 : Int32))) →
            Q (mHeld ((mIt (h 89) a1 (1 : Int32)) / (2 : Int32)) (-20 : Int32) (20 : Int32)) h
          ))
        ) ∧ (¬ (mIt (h 89) a1 (0 : Int32)) = (5 : Int32) →
        (((mIt (h 89) a1 (0 : Int32)) = (6 : Int32) →
          Cal G (d - 1) m_X8_blowsTold [.ref 88, .int a1, .int ((h 89 1) - (mIt (h 89) a1 (3 : Int32)))] h (fun x27 h28 =>
            Q (mHeld x27 (-20 : Int32) (20 : Int32)) h28
          )
        ) ∧ (¬ (mIt (h 89) a1 (0 : Int32)) = (6 : Int32) →
          Q (mHeld (mIt (h 89) a1 (1 : Int32)) (-20 : Int32) (20 : Int32)) h
        ))))))))))))
      ))
    ) ∧ (¬ ((kb (mIt (h 89) a1 3 = -1)) = 0) →
      Q (0 : Int32) h
    ))) : Cal G d m_X8_force [.ref 88, .int a1] h Q :=
  Cal.of [.ref 88, .int a1, .null, .null, .null, .null] (by decide +kernel) (Nat.le_of_ble_eq_true rfl) rfl (sg_X8_force_0 hd  H)

def at_X8_windTo_11 (G : kG) (d : Nat) (Q : Int32 → kM → Prop)  (v1 : Int32) (v2 : Int32) (v3 : Int32) (h : kM) : Prop := Wp G d m_X8_windTo (kEo G d m_X8_windTo Q) 11 [.ref 88, .int v1, .int v2, .int v3, .null, .null] [] h
theorem sg_X8_windTo_0 {G : kG} {d : Nat} {Q : Int32 → kM → Prop}  {a1 : Int32} {h : kM} (hd : 6 ≤ d)  (H :
    (vp_in ((2 : Int32) + a1) 481) ∧
    at_X8_windTo_11 G d Q a1 (h 89 (((2 : Int32) + a1)).toNatClampNeg) (0 : Int32) h) : Wp G d m_X8_windTo (kEo G d m_X8_windTo Q) 0 [.ref 88, .int a1, .null, .null, .null, .null] [] h := by
  refine wp_aload_n 1 dX8_windTo_0 rfl rfl ?_
  refine wp_getR 1 89 4 dX8_windTo_1 rfl fl_X8_7 kd_88 rfl rfl rfl rfl ?_
  refine wp_iconst (2 : Int32) 5 dX8_windTo_4 kiconst_2 rfl ?_
  refine wp_iload_n 6 dX8_windTo_5 rfl rfl ?_
  refine wp_iadd 7 dX8_windTo_6 rfl ?_
  have c1 := H.1; replace H := H.2
  refine wp_iald 8 dX8_windTo_7 rfl kd_89 c1 ?_
  refine wp_istore_n 9 dX8_windTo_8 rfl (Nat.le_of_ble_eq_true rfl) rfl ?_
  refine wp_iconst (0 : Int32) 10 dX8_windTo_9 kiconst_0 rfl ?_
  refine wp_istore_n 11 dX8_windTo_10 rfl (Nat.le_of_ble_eq_true rfl) rfl ?_
  exact H

theorem cg_X8_windTo {G : kG} {d : Nat} {Q : Int32 → kM → Prop}  {a1 : Int32} {h : kM} (hd : 6 ≤ d)  (H :
    (vp_in ((2 : Int32) + a1) 481) ∧
    at_X8_windTo_11 G d Q a1 (h 89 (((2 : Int32) + a1)).toNatClampNeg) (0 : Int32) h) : Cal G d m_X8_windTo [.ref 88, .int a1] h Q :=
  Cal.of [.ref 88, .int a1, .null, .null, .null, .null] (by decide +kernel) (Nat.le_of_ble_eq_true rfl) rfl (sg_X8_windTo_0 hd  H)

theorem sg_X8_windTo_11 {G : kG} {d : Nat} {Q : Int32 → kM → Prop}  {v1 : Int32} {v2 : Int32} {v3 : Int32} {h : kM} (hd : 6 ≤ d)  (H :
    ((((3 : Int32) * (h 89 0)) ≤ v3 →
      Q v2 h
    ) ∧ (¬ (((3 : Int32) * (h 89 0)) ≤ v3) →
      (okI v3 (2 : Int32)) ∧
      (((mIt (h 89) v3 (2 : Int32)) = (1 : Int32) →
        Cal G (d - 1) m_X8_force [.ref 88, .int v3] h (fun x4 h5 =>
          ((¬ ((mIt (h 89) v3 (2 : Int32)) - (mIt (h 89) v3 (2 : Int32)) / (2 : Int32) * (2 : Int32)) = ((1 : Int32) - v1) →
            at_X8_windTo_11 G d Q v1 (v2 + (0 : Int32)) (v3 + (1 : Int32)) h5
          ) ∧ (((mIt (h 89) v3 (2 : Int32)) - (mIt (h 89) v3 (2 : Int32)) / (2 : Int32) * (2 : Int32)) = ((1 : Int32) - v1) →
            at_X8_windTo_11 G d Q v1 (v2 + x4) (v3 + (1 : Int32)) h5
          ))
        )
      ) ∧ (¬ ((mIt (h 89) v3 (2 : Int32)) = (1 : Int32)) →
        ((¬ (mIt (h 89) v3 (2 : Int32)) = (2 : Int32) →
          Cal G (d - 1) m_X8_force [.ref 88, .int v3] h (fun x8 h9 =>
            ((¬ ((mIt (h 89) v3 (2 : Int32)) - (mIt (h 89) v3 (2 : Int32)) / (2 : Int32) * (2 : Int32)) = ((1 : Int32) - v1) →
              at_X8_windTo_11 G d Q v1 (v2 + (0 : Int32)) (v3 + (1 : Int32)) h9
            ) ∧ (((mIt (h 89) v3 (2 : Int32)) - (mIt (h 89) v3 (2 : Int32)) / (2 : Int32) * (2 : Int32)) = ((1 : Int32) - v1) →
              at_X8_windTo_11 G d Q v1 (v2 + (-x8)) (v3 + (1 : Int32)) h9
            ))
          )
        ) ∧ ((mIt (h 89) v3 (2 : Int32)) = (2 : Int32) →
          Cal G (d - 1) m_X8_force [.ref 88, .int v3] h (fun x11 h12 =>
            ((¬ ((mIt (h 89) v3 (2 : Int32)) - (mIt (h 89) v3 (2 : Int32)) / (2 : Int32) * (2 : Int32)) = ((1 : Int32) - v1) →
              at_X8_windTo_11 G d Q v1 (v2 + (0 : Int32)) (v3 + (1 : Int32)) h12
            ) ∧ (((mIt (h 89) v3 (2 : Int32)) - (mIt (h 89) v3 (2 : Int32)) / (2 : Int32) * (2 : Int32)) = ((1 : Int32) - v1) →
              at_X8_windTo_11 G d Q v1 (v2 + x11) (v3 + (1 : Int32)) h12
            ))
          )
        ))
      ))
    ))) : at_X8_windTo_11 G d Q v1 v2 v3 h := by
  show Wp G d m_X8_windTo (kEo G d m_X8_windTo Q) 11 [.ref 88, .int v1, .int v2, .int v3, .null, .null] [] h
  refine wp_iload_n 12 dX8_windTo_11 rfl rfl ?_
  refine wp_iconst (3 : Int32) 13 dX8_windTo_12 kiconst_3 rfl ?_
  refine wp_aload_n 14 dX8_windTo_13 rfl rfl ?_
  refine wp_getR 1 89 17 dX8_windTo_14 rfl fl_X8_7 kd_88 rfl rfl rfl rfl ?_
  refine wp_iconst (0 : Int32) 18 dX8_windTo_17 kiconst_0 rfl ?_
  refine wp_iald 19 dX8_windTo_18 rfl kd_89 (by unfold vp_in; decide) ?_
  refine wp_imul 20 dX8_windTo_19 rfl ?_
  refine wp_icmp_ge 84 23 dX8_windTo_20 rfl rfl ⟨fun c1 => ?_, fun c1 => ?_⟩
  · replace H := H.1 c1
    refine wp_iload_n 85 dX8_windTo_84 rfl rfl ?_
    exact wp_reti dX8_windTo_85 rfl H
  · replace H := H.2 c1
    refine wp_aload_n 24 dX8_windTo_23 rfl rfl ?_
    refine wp_iload_n 25 dX8_windTo_24 rfl rfl ?_
    refine wp_iconst (2 : Int32) 26 dX8_windTo_25 kiconst_2 rfl ?_
    have c2 := H.1; replace H := H.2
    refine wp_cV (d - 1) 2 [.int v3, .int (2 : Int32)] [] 29 dX8_windTo_26 rfl (lk_X8_58 rfl) (by omega) kd_88 rfl rfl rfl (Nat.le_of_ble_eq_true rfl) (sp_X8_its (by omega) c2 ?_)
    refine wp_istore 31 dX8_windTo_29 rfl (Nat.le_of_ble_eq_true rfl) rfl ?_
    refine wp_iload 33 dX8_windTo_31 rfl rfl ?_
    refine wp_iconst (1 : Int32) 34 dX8_windTo_33 kiconst_1 rfl ?_
    refine wp_icmp_eq 43 37 dX8_windTo_34 rfl rfl ⟨fun c3 => ?_, fun c3 => ?_⟩
    · replace H := H.1 c3
      refine wp_aload_n 44 dX8_windTo_43 rfl rfl ?_
      refine wp_iload_n 45 dX8_windTo_44 rfl rfl ?_
      refine wp_cV (d - 1) 1 [.int v3] [] 48 dX8_windTo_45 rfl (lk_X8_133 rfl) (by omega) kd_88 rfl rfl rfl (Nat.le_of_ble_eq_true rfl) (H.mono (fun x4 h5 H => ?_))
      refine wp_goto 57 dX8_windTo_48 rfl ?_
      refine wp_istore 59 dX8_windTo_57 rfl (Nat.le_of_ble_eq_true rfl) rfl ?_
      refine wp_iload_n 60 dX8_windTo_59 rfl rfl ?_
      refine wp_iload 62 dX8_windTo_60 rfl rfl ?_
      refine wp_iconst (2 : Int32) 63 dX8_windTo_62 kiconst_2 rfl ?_
      refine wp_irem 64 dX8_windTo_63 (by decide) rfl ?_
      refine wp_iconst (1 : Int32) 65 dX8_windTo_64 kiconst_1 rfl ?_
      refine wp_iload_n 66 dX8_windTo_65 rfl rfl ?_
      refine wp_isub 67 dX8_windTo_66 rfl ?_
      refine wp_icmp_ne 75 70 dX8_windTo_67 rfl rfl ⟨fun c6 => ?_, fun c6 => ?_⟩
      · replace H := H.1 c6
        refine wp_iconst (0 : Int32) 76 dX8_windTo_75 kiconst_0 rfl ?_
        refine wp_iadd 77 dX8_windTo_76 rfl ?_
        refine wp_istore_n 78 dX8_windTo_77 rfl (Nat.le_of_ble_eq_true rfl) rfl ?_
        refine wp_iinc (1 : Int32) 81 dX8_windTo_78 rfl rfl kiconst_1 (Nat.le_of_ble_eq_true rfl) rfl ?_
        refine wp_goto 11 dX8_windTo_81 rfl ?_
        refine wp_drop 4 ?_
        refine wp_drop 5 ?_
        exact H
      · replace H := H.2 c6
        refine wp_iload 72 dX8_windTo_70 rfl rfl ?_
        refine wp_goto 76 dX8_windTo_72 rfl ?_
        refine wp_iadd 77 dX8_windTo_76 rfl ?_
        refine wp_istore_n 78 dX8_windTo_77 rfl (Nat.le_of_ble_eq_true rfl) rfl ?_
        refine wp_iinc (1 : Int32) 81 dX8_windTo_78 rfl rfl kiconst_1 (Nat.le_of_ble_eq_true rfl) rfl ?_
        refine wp_goto 11 dX8_windTo_81 rfl ?_
        refine wp_drop 4 ?_
        refine wp_drop 5 ?_
        exact H
    · replace H := H.2 c3
      refine wp_iload 39 dX8_windTo_37 rfl rfl ?_
      refine wp_iconst (2 : Int32) 40 dX8_windTo_39 kiconst_2 rfl ?_
      refine wp_icmp_ne 51 43 dX8_windTo_40 rfl rfl ⟨fun c7 => ?_, fun c7 => ?_⟩
      · replace H := H.1 c7
        refine wp_aload_n 52 dX8_windTo_51 rfl rfl ?_
        refine wp_iload_n 53 dX8_windTo_52 rfl rfl ?_
        refine wp_cV (d - 1) 1 [.int v3] [] 56 dX8_windTo_53 rfl (lk_X8_133 rfl) (by omega) kd_88 rfl rfl rfl (Nat.le_of_ble_eq_true rfl) (H.mono (fun x8 h9 H => ?_))
        refine wp_ineg 57 dX8_windTo_56 rfl ?_
        refine wp_istore 59 dX8_windTo_57 rfl (Nat.le_of_ble_eq_true rfl) rfl ?_
        refine wp_iload_n 60 dX8_windTo_59 rfl rfl ?_
        refine wp_iload 62 dX8_windTo_60 rfl rfl ?_
        refine wp_iconst (2 : Int32) 63 dX8_windTo_62 kiconst_2 rfl ?_
        refine wp_irem 64 dX8_windTo_63 (by decide) rfl ?_
        refine wp_iconst (1 : Int32) 65 dX8_windTo_64 kiconst_1 rfl ?_
        refine wp_iload_n 66 dX8_windTo_65 rfl rfl ?_
        refine wp_isub 67 dX8_windTo_66 rfl ?_
        refine wp_icmp_ne 75 70 dX8_windTo_67 rfl rfl ⟨fun c10 => ?_, fun c10 => ?_⟩
        · replace H := H.1 c10
          refine wp_iconst (0 : Int32) 76 dX8_windTo_75 kiconst_0 rfl ?_
          refine wp_iadd 77 dX8_windTo_76 rfl ?_
          refine wp_istore_n 78 dX8_windTo_77 rfl (Nat.le_of_ble_eq_true rfl) rfl ?_
          refine wp_iinc (1 : Int32) 81 dX8_windTo_78 rfl rfl kiconst_1 (Nat.le_of_ble_eq_true rfl) rfl ?_
          refine wp_goto 11 dX8_windTo_81 rfl ?_
          refine wp_drop 4 ?_
          refine wp_drop 5 ?_
          exact H
        · replace H := H.2 c10
          refine wp_iload 72 dX8_windTo_70 rfl rfl ?_
          refine wp_goto 76 dX8_windTo_72 rfl ?_
          refine wp_iadd 77 dX8_windTo_76 rfl ?_
          refine wp_istore_n 78 dX8_windTo_77 rfl (Nat.le_of_ble_eq_true rfl) rfl ?_
          refine wp_iinc (1 : Int32) 81 dX8_windTo_78 rfl rfl kiconst_1 (Nat.le_of_ble_eq_true rfl) rfl ?_
          refine wp_goto 11 dX8_windTo_81 rfl ?_
          refine wp_drop 4 ?_
          refine wp_drop 5 ?_
          exact H
      · replace H := H.2 c7
        refine wp_aload_n 44 dX8_windTo_43 rfl rfl ?_
        refine wp_iload_n 45 dX8_windTo_44 rfl rfl ?_
        refine wp_cV (d - 1) 1 [.int v3] [] 48 dX8_windTo_45 rfl (lk_X8_133 rfl) (by omega) kd_88 rfl rfl rfl (Nat.le_of_ble_eq_true rfl) (H.mono (fun x11 h12 H => ?_))
        refine wp_goto 57 dX8_windTo_48 rfl ?_
        refine wp_istore 59 dX8_windTo_57 rfl (Nat.le_of_ble_eq_true rfl) rfl ?_
        refine wp_iload_n 60 dX8_windTo_59 rfl rfl ?_
        refine wp_iload 62 dX8_windTo_60 rfl rfl ?_
        refine wp_iconst (2 : Int32) 63 dX8_windTo_62 kiconst_2 rfl ?_
        refine wp_irem 64 dX8_windTo_63 (by decide) rfl ?_
        refine wp_iconst (1 : Int32) 65 dX8_windTo_64 kiconst_1 rfl ?_
        refine wp_iload_n 66 dX8_windTo_65 rfl rfl ?_
        refine wp_isub 67 dX8_windTo_66 rfl ?_
        refine wp_icmp_ne 75 70 dX8_windTo_67 rfl rfl ⟨fun c13 => ?_, fun c13 => ?_⟩
        · replace H := H.1 c13
          refine wp_iconst (0 : Int32) 76 dX8_windTo_75 kiconst_0 rfl ?_
          refine wp_iadd 77 dX8_windTo_76 rfl ?_
          refine wp_istore_n 78 dX8_windTo_77 rfl (Nat.le_of_ble_eq_true rfl) rfl ?_
          refine wp_iinc (1 : Int32) 81 dX8_windTo_78 rfl rfl kiconst_1 (Nat.le_of_ble_eq_true rfl) rfl ?_
          refine wp_goto 11 dX8_windTo_81 rfl ?_
          refine wp_drop 4 ?_
          refine wp_drop 5 ?_
          exact H
        · replace H := H.2 c13
          refine wp_iload 72 dX8_windTo_70 rfl rfl ?_
          refine wp_goto 76 dX8_windTo_72 rfl ?_
          refine wp_iadd 77 dX8_windTo_76 rfl ?_
          refine wp_istore_n 78 dX8_windTo_77 rfl (Nat.le_of_ble_eq_true rfl) rfl ?_
          refine wp_iinc (1 : Int32) 81 dX8_windTo_78 rfl rfl kiconst_1 (Nat.le_of_ble_eq_true rfl) rfl ?_
          refine wp_goto 11 dX8_windTo_81 rfl ?_
          refine wp_drop 4 ?_
          refine wp_drop 5 ?_
          exact H

theorem sp_X8_blowsTold (hd : 4 ≤ d) {v : kM} {n H f w k : Nat} {a : Int32} (hS : kSRn v (h 89) n H f w) (hk : k < 3 * n) (kk : ∀ h1, kS2 h h1 → Q (if 0 < v 11 2 then kVal (v 12) (v 11 2).toNatClampNeg a (v 7 k) (v 6 k) else if a < 3 then v 6 k else 0) h1) : Cal G d m_X8_blowsTold [.ref 88, .int (nI k), .int a] h Q := by
  obtain ⟨t, m, wy, ht, hm, hwy, e1, e2, e3, e4, e5, e6, e7⟩ := hS.2.2.2.2.2.2.2.2.1 k hk
  have hn := hS.1.1
  have hT := hS.2.2.2.2.2.2.2.2.2.1
  obtain ⟨tn, tl, t1, t2, t3, t4⟩ := hT
  have m1 : ∀ g : Nat → Int32, g = h 89 → mIt g (nI k) 1 = nI m := fun g hg => by rw [mIt_1 (by omega), hg]; exact e4
  have m2 : ∀ g : Nat → Int32, g = h 89 → mIt g (nI k) 2 = nI wy := fun g hg => by rw [mIt_2 (by omega), hg]; exact e6
  have e147 : ((147 : Int32) + 125 * 0).toNatClampNeg = 147 := by decide
  refine cg_X8_blowsTold hd ⟨okI_n (w := 1) (by omega) (by decide), by unfold vp_in; decide, ?_⟩
  rw [e147, t2, m1 _ rfl]
  rw [t1, e3] at kk
  by_cases hp : 0 < nI tn
  · refine ⟨fun _ => fun h4 e4' => ⟨okI_n (w := 2) (by omega) (by decide), fun h6 e6' h7 e7' => ?_⟩, fun q => absurd hp (kb_0.mp q)⟩
    have g4 : h4 89 = h 89 := by rw [e4', kU_ne (by decide)]
    rw [m2 _ g4] at e6'
    have g7 : h7 89 = h 89 := by rw [e7', kU_ne (by decide), e6', kU_ne (by decide), g4]
    have c95 : h7 95 = upd (upd (upd (h 95) 104 a) 119 (nI wy)) 109 (nI m) := by rw [e7', kU_eq, e6', kU_eq, e4', kU_eq]
    refine sp_X8_worked (d := d - 1) (by omega) (u := 0) (Or.inl rfl) (b := 147) rfl (len := nI tn) (c := v 12) (x := a) (y := nI wy) (z := nI m) ?_ hp ?_ (fun s => ?_)
    · rw [g7]
      exact ⟨tn, tl, rfl, t2, t3, t4⟩
    · unfold kNmd
      rw [if_pos rfl, c95]
      refine ⟨?_, ?_, ?_⟩
      · rw [pk_un (by decide), pk_un (by decide), pk_us]
      · rw [pk_un (by decide), pk_us]
      · rw [pk_us]
    · have k2 := kk (kIn h7 96 s) (fun b x y => by rw [kIn_ne y, e7', kU_ne x, e6', kU_ne x, e4', kU_ne x])
      rw [if_pos hp, e5] at k2
      exact k2
  · have k2 := kk h kS2.rf
    rw [if_neg hp] at k2
    refine ⟨fun q => absurd (kb_n0.mp q) hp, fun _ => ⟨fun c => ?_, fun c => ?_⟩⟩
    · rw [if_neg (len c)] at k2
      exact k2
    · rw [if_pos (nle c)] at k2
      exact k2
/-- a force as the model says it: 0 of a tied knot -/
def kFv (v : kM) (k : Nat) : Int32 := if v 8 k = -1 then 0 else kFo v k (v 0 13 - v 8 k)
theorem mHeld_id {x : Int32} (h1 : -20 ≤ x) (h2 : x ≤ 20) : mHeld x (-20) 20 = x := by
  unfold mHeld
  rw [if_pos h1, if_pos h2]
theorem mHeld_kHeld (x l m : Int32) (h : l ≤ m) : mHeld x l m = kHeld x l m := by
  unfold mHeld kHeld
  by_cases h1 : l ≤ x
  · rw [if_pos h1]
    by_cases h2 : x ≤ m
    · rw [if_pos h2]
      by_cases h3 : x < m
      · rw [if_pos h3]
        by_cases h4 : l < x
        · rw [if_pos h4]
        · rw [if_neg h4]
          exact Int32.le_antisymm (nlt h4) h1
      · rw [if_neg h3]
        have : x = m := Int32.le_antisymm h2 (nlt h3)
        subst this
        by_cases h4 : l < x
        · rw [if_pos h4]
        · rw [if_neg h4]
          exact Int32.le_antisymm (nlt h4) h1
    · rw [if_neg h2, if_neg (fun q => h2 (Int32.le_of_lt q))]
      by_cases h4 : l < m
      · rw [if_pos h4]
      · rw [if_neg h4]
        exact Int32.le_antisymm (nlt h4) h
  · rw [if_neg h1]
    have hxl : x < l := nle h1
    have hxm : x < m := by
      rw [Int32.lt_iff_toInt_lt] at hxl ⊢
      rw [Int32.le_iff_toInt_le] at h
      omega
    rw [if_pos hxm, if_neg (fun q => h1 (Int32.le_of_lt q))]
theorem m_small : ∀ m, m < 10 → (-20 ≤ -nI m ∧ -nI m ≤ 20) ∧ (-20 ≤ nI m ∧ nI m ≤ 20) ∧ (-20 ≤ nI m / 2 ∧ nI m / 2 ≤ 20) ∧ (-20 ≤ -2 * nI m ∧ -2 * nI m ≤ 20) := by decide
theorem sp_X8_force (hd : 5 ≤ d) {v : kM} {n H f w k : Nat} (hS : kSRn v (h 89) n H f w) (hk : k < 3 * n) (kk : ∀ h1, kS2 h h1 → Q (kFv v k) h1) : Cal G d m_X8_force [.ref 88, .int (nI k)] h Q := by
  obtain ⟨t, m, wy, ht, hm, hwy, e1, e2, e3, e4, e5, e6, e7⟩ := hS.2.2.2.2.2.2.2.2.1 k hk
  have hn := hS.1.1
  have o : ∀ w, w < 4 → okI (nI k) (nI w) := fun w hw => okI_n (by omega) hw
  have m0 : mIt (h 89) (nI k) 0 = nI t := by rw [mIt_0 (by omega)]; exact e2
  have m1 : mIt (h 89) (nI k) 1 = nI m := by rw [mIt_1 (by omega)]; exact e4
  have m3 : mIt (h 89) (nI k) 3 = v 8 k := by rw [mIt_3 (by omega)]; exact e7.symm
  obtain ⟨s1, s2, s3, s4⟩ := m_small m hm
  have k0 := kk h kS2.rf
  refine cg_X8_force hd ⟨o 3 (by decide), ?_⟩
  rw [m3]
  unfold kFv at k0 kk
  by_cases hl : v 8 k = -1
  · rw [if_pos hl] at k0
    exact ⟨fun q => absurd hl (kb_0.mp q), fun _ => k0⟩
  rw [if_neg hl] at k0
  simp only [if_neg hl] at kk
  refine ⟨fun _ => ⟨o 3 (by decide), o 1 (by decide), ?_⟩, fun q => absurd (kb_n0.mp q) hl⟩
  rw [m0, m1, show h 89 1 = v 0 13 by rw [hS.2.1.2.1, hS.2.1.2.2]]
  generalize ha : v 0 13 - v 8 k = a at k0 kk ⊢
  unfold kFo kForce at k0 kk
  rw [e1, e3] at k0
  simp only [e1, e3] at kk
  have e3' := e3
  refine ⟨fun c => ⟨o 0 (by decide), ?_⟩, fun c => ⟨o 0 (by decide), ?_⟩⟩
  · have c' := len c
    simp only [if_neg c'] at k0 kk
    refine ⟨fun e => ?_, fun e1 => ?_⟩
    · rw [if_pos e] at k0
      rw [mHeld_id (by decide) (by decide)]
      exact k0
    rw [if_neg e1] at k0
    simp only [if_neg e1] at kk
    refine ⟨fun e => ?_, fun e2 => ?_⟩
    · rw [if_pos e] at k0
      refine ⟨fun q => ?_, fun q => ?_⟩
      · rw [if_neg (len q)] at k0
        exact k0
      · rw [if_pos (nle q)] at k0
        rw [mHeld_id s3.1 s3.2]
        exact k0
    rw [if_neg e2] at k0
    simp only [if_neg e2] at kk
    refine ⟨fun e => by rw [if_pos e] at k0; exact k0, fun e3 => ?_⟩
    rw [if_neg e3] at k0
    simp only [if_neg e3] at kk
    refine ⟨fun e => ?_, fun e4 => ?_⟩
    · rw [if_pos e] at k0
      refine ⟨fun q => ?_, fun q => ?_⟩
      · rw [if_neg q] at k0
        rw [mHeld_id (by decide) (by decide)]
        exact k0
      · rw [if_pos q] at k0
        rw [mHeld_id (by decide) (by decide)]
        exact k0
    rw [if_neg e4] at k0
    simp only [if_neg e4] at kk
    refine ⟨fun e => ?_, fun e5 => ?_⟩
    · rw [if_pos e] at k0
      refine ⟨fun q => ?_, fun q => ?_⟩
      · rw [if_neg (len q)] at k0
        exact k0
      · rw [if_pos (nle q)] at k0
        rw [mHeld_id s3.1 s3.2]
        exact k0
    rw [if_neg e5] at k0
    simp only [if_neg e5] at kk
    refine ⟨fun e => ?_, fun e6 => ?_⟩
    · simp only [if_pos e] at kk
      refine sp_X8_blowsTold (d := d - 1) (by omega) hS hk (fun h1 q1 => ?_)
      have k1 := kk h1 q1
      rw [e3']
      by_cases hp : 0 < v 11 2
      · rw [if_pos hp] at k1 ⊢
        rw [mHeld_kHeld _ _ _ (by decide)]
        exact k1
      · rw [if_neg hp] at k1 ⊢
        rw [if_neg c', mHeld_id (by decide) (by decide)]
        exact k1
    · rw [if_neg e6] at k0
      rw [mHeld_id (by decide) (by decide)]
      exact k0
  · have c' := nle c
    simp only [if_pos c'] at k0 kk
    refine ⟨fun e => ?_, fun e1 => ?_⟩
    · rw [if_pos e] at k0
      rw [mHeld_id s1.1 s1.2]
      exact k0
    rw [if_neg e1] at k0
    simp only [if_neg e1] at kk
    refine ⟨fun e => ?_, fun e2 => ?_⟩
    · rw [if_pos e] at k0
      refine ⟨fun q => ?_, fun q => ?_⟩
      · rw [if_neg (len q)] at k0
        exact k0
      · rw [if_pos (nle q)] at k0
        rw [mHeld_id s3.1 s3.2]
        exact k0
    rw [if_neg e2] at k0
    simp only [if_neg e2] at kk
    refine ⟨fun e => by rw [if_pos e] at k0; exact k0, fun e3 => ?_⟩
    rw [if_neg e3] at k0
    simp only [if_neg e3] at kk
    refine ⟨fun e => ?_, fun e4 => ?_⟩
    · rw [if_pos e] at k0
      refine ⟨fun q => ?_, fun q => ?_⟩
      · rw [if_neg q] at k0
        rw [mHeld_id s1.1 s1.2]
        exact k0
      · rw [if_pos q] at k0
        rw [mHeld_id s4.1 s4.2]
        exact k0
    rw [if_neg e4] at k0
    simp only [if_neg e4] at kk
    refine ⟨fun e => ?_, fun e5 => ?_⟩
    · rw [if_pos e] at k0
      refine ⟨fun q => ?_, fun q => ?_⟩
      · rw [if_neg (len q)] at k0
        exact k0
      · rw [if_pos (nle q)] at k0
        rw [mHeld_id s3.1 s3.2]
        exact k0
    rw [if_neg e5] at k0
    simp only [if_neg e5] at kk
    refine ⟨fun e => ?_, fun e6 => ?_⟩
    · simp only [if_pos e] at kk
      refine sp_X8_blowsTold (d := d - 1) (by omega) hS hk (fun h1 q1 => ?_)
      have k1 := kk h1 q1
      rw [e3']
      by_cases hp : 0 < v 11 2
      · rw [if_pos hp] at k1 ⊢
        rw [mHeld_kHeld _ _ _ (by decide)]
        exact k1
      · rw [if_neg hp] at k1 ⊢
        rw [if_pos c', mHeld_id s2.1 s2.2]
        exact k1
    · rw [if_neg e6] at k0
      rw [mHeld_id s2.1 s2.2]
      exact k0
theorem kSRn.congr2 {v : kM} {g g' : Nat → Int32} {n H f w : Nat} (hS : kSRn v g n H f w) (e : g' = g) : kSRn v g' n H f w := by rw [e]; exact hS
theorem kWt_mul {v : kM} {what : Int32} {k : Nat} : kWt v what (v 0 13) k = kShare (v 7 k) what * kFv v k := by
  unfold kWt kFv
  by_cases e : v 8 k = -1
  · rw [if_pos e, if_pos e, Int32.mul_zero]
  · rw [if_neg e, if_neg e]
theorem lp_windTo (hd : 6 ≤ d) {v : kM} {n H f w : Nat} {what : Int32} (hw : what = 0 ∨ what = 1) {s0 : Int32} (hS : kSRn v (h 89) n H f w) (kk : ∀ h1, kS2 h h1 → Q (kSum (kWt v what (v 0 13)) s0 (3 * n)) h1) : ∀ (m i : Nat) (h1 : kM), i + m = 3 * n → kS2 h h1 → at_X8_windTo_11 G d Q what (kSum (kWt v what (v 0 13)) s0 i) (nI i) h1 := by
  have hn := hS.1.1
  intro m
  induction m with
  | zero =>
    intro i h1 hi e1
    have hi2 : i = 3 * n := by omega
    subst hi2
    have e0 : (3 : Int32) * h1 89 0 = nI (3 * n) := by rw [e1.g, hS.1.2.2]; exact pk_mul 3 n
    exact sg_X8_windTo_11 hd ⟨fun _ => kk h1 e1, fun q => absurd (by rw [e0]; exact nI_le (Nat.le_refl _) (by omega)) q⟩
  | succ m ih =>
    intro i h1 hi e1
    have e0 : (3 : Int32) * h1 89 0 = nI (3 * n) := by rw [e1.g, hS.1.2.2]; exact pk_mul 3 n
    obtain ⟨t, mm, wy, ht, hm, hwy, x1, x2, x3, x4, x5, x6, x7⟩ := hS.2.2.2.2.2.2.2.2.1 i (by omega)
    have m2 : mIt (h1 89) (nI i) 2 = nI wy := by rw [mIt_2 (by omega), e1.g]; exact x6
    have nexti : nI i + 1 = nI (i + 1) := nI_1 i
    have hS1 := hS.congr2 e1.g
    have step : ∀ h2 z, kS2 h1 h2 → z = kShare (nI wy) what * kFv v i → at_X8_windTo_11 G d Q what (kSum (kWt v what (v 0 13)) s0 i + z) (nI i + 1) h2 := by
      intro h2 z e2 hz
      rw [nexti]
      have := ih (i + 1) h2 (by omega) (e1.tr e2)
      rw [hz, ← x5, ← kWt_mul]
      exact this
    refine sg_X8_windTo_11 hd ⟨fun q => absurd q (by rw [e0]; exact ltn (nI_lt (by omega) (by omega))), fun _ => ⟨okI_n (w := 2) (by omega) (by decide), ?_⟩⟩
    rw [m2]
    have hwy4 : wy = 0 ∨ wy = 1 ∨ wy = 2 ∨ wy = 3 := by omega
    rcases hw with rfl | rfl <;> rcases hwy4 with rfl | rfl | rfl | rfl
    · exact ⟨fun q => absurd q (by decide), fun _ => ⟨fun _ => sp_X8_force (d := d - 1) (by omega) hS1 (by omega) (fun h2 e2 => ⟨fun _ => step h2 _ e2 (by rw [show kShare (nI 0) 0 = 0 by decide, Int32.zero_mul]), fun q => absurd q (by decide)⟩), fun q => absurd q (by decide)⟩⟩
    · exact ⟨fun _ => sp_X8_force (d := d - 1) (by omega) hS1 (by omega) (fun h2 e2 => ⟨fun q => absurd (by decide) q, fun _ => step h2 _ e2 (by rw [show kShare (nI 1) 0 = 1 by decide, Int32.one_mul])⟩), fun q => absurd (by decide) q⟩
    · exact ⟨fun q => absurd q (by decide), fun _ => ⟨fun q => absurd (by decide) q, fun _ => sp_X8_force (d := d - 1) (by omega) hS1 (by omega) (fun h2 e2 => ⟨fun _ => step h2 _ e2 (by rw [show kShare (nI 2) 0 = 0 by decide, Int32.zero_mul]), fun q => absurd q (by decide)⟩)⟩⟩
    · exact ⟨fun q => absurd q (by decide), fun _ => ⟨fun _ => sp_X8_force (d := d - 1) (by omega) hS1 (by omega) (fun h2 e2 => ⟨fun q => absurd (by decide) q, fun _ => step h2 _ e2 (by rw [show kShare (nI 3) 0 = -1 by decide, Int32.neg_mul, Int32.one_mul])⟩), fun q => absurd q (by decide)⟩⟩
    · exact ⟨fun q => absurd q (by decide), fun _ => ⟨fun _ => sp_X8_force (d := d - 1) (by omega) hS1 (by omega) (fun h2 e2 => ⟨fun q => absurd (by decide) q, fun _ => step h2 _ e2 (by rw [show kShare (nI 0) 1 = -1 by decide, Int32.neg_mul, Int32.one_mul])⟩), fun q => absurd q (by decide)⟩⟩
    · exact ⟨fun _ => sp_X8_force (d := d - 1) (by omega) hS1 (by omega) (fun h2 e2 => ⟨fun _ => step h2 _ e2 (by rw [show kShare (nI 1) 1 = 0 by decide, Int32.zero_mul]), fun q => absurd q (by decide)⟩), fun q => absurd (by decide) q⟩
    · exact ⟨fun q => absurd q (by decide), fun _ => ⟨fun q => absurd (by decide) q, fun _ => sp_X8_force (d := d - 1) (by omega) hS1 (by omega) (fun h2 e2 => ⟨fun q => absurd (by decide) q, fun _ => step h2 _ e2 (by rw [show kShare (nI 2) 1 = 1 by decide, Int32.one_mul])⟩)⟩⟩
    · exact ⟨fun q => absurd q (by decide), fun _ => ⟨fun _ => sp_X8_force (d := d - 1) (by omega) hS1 (by omega) (fun h2 e2 => ⟨fun _ => step h2 _ e2 (by rw [show kShare (nI 3) 1 = 0 by decide, Int32.zero_mul]), fun q => absurd q (by decide)⟩), fun q => absurd q (by decide)⟩⟩
theorem kSRn.ns {v : kM} {g : Nat → Int32} {n H f w : Nat} (hS : kSRn v g n H f w) : kNs v = n := by
  unfold kNs
  rw [hS.1.2.1]
  exact nI_clamp (by have := hS.1.1; omega)
theorem kTR.ok {u : Int32} {v : kM} {t : Nat} {g : Nat → Int32} {b : Nat} (h : kTR u (v t 2) (v (t + 1)) g b) : kTxtOk v t := by
  obtain ⟨n, h1, h2, -, h4, -⟩ := h
  exact ⟨n, h1, h2, h4.symm⟩
theorem kSRn.ok {v : kM} {g : Nat → Int32} {n H f w : Nat} (hS : kSRn v g n H f w) : kSeaOk v := ⟨⟨n, hS.1.1, hS.1.2.1⟩, hS.2.2.2.2.2.2.2.2.2.1.ok, hS.2.2.2.2.2.2.2.2.2.2.1.ok⟩
theorem sp_X8_windTo (hd : 6 ≤ d) {v : kM} {n H f w : Nat} {what : Int32} (hw : what = 0 ∨ what = 1) (hS : kSRn v (h 89) n H f w) (kk : ∀ h1, kS2 h h1 → Q (kWn v what (v 0 13)) h1) : Cal G d m_X8_windTo [.ref 88, .int what] h Q := by
  unfold kWn at kk
  rw [hS.ns] at kk
  have e2 : (2 + what).toNatClampNeg = 2 + what.toNatClampNeg := by rcases hw with rfl | rfl <;> decide
  have e3 : h 89 (2 + what.toNatClampNeg) = v 2 what.toNatClampNeg := by
    have := hS.2.2.2.2.2.1 what.toNatClampNeg (by rcases hw with rfl | rfl <;> decide)
    rw [this]
  refine cg_X8_windTo hd ⟨by rcases hw with rfl | rfl <;> (unfold vp_in; decide), ?_⟩
  rw [e2, e3]
  exact lp_windTo hd hw hS kk (3 * n) 0 h (by omega) kS2.rf
end MWind

