/-! loose, as, tie, ship -/
section Knots
variable {G : kG} {d : Nat} {Q : Int32 → kM → Prop} {h : kM}
/-- a knot that is loosed in this hour -/
def kLo (v : kM) (k : Nat) : kM := fun a => if a = 8 then upd (v 8) k (v 0 13) else v a
theorem kLo_8 {v : kM} {k : Nat} : kLo v k 8 = upd (v 8) k (v 0 13) := if_pos rfl
theorem kLo_c {v : kM} {k a : Nat} (ha : a ≠ 8) : kLo v k a = v a := if_neg ha
theorem kSRn.lo {v v' : kM} {g g' : Nat → Int32} {n H f w k : Nat} (hS : kSRn v g n H f w) (hk : k < 3 * n) (ev : kVEq (kLo v k) v') (eg : g' = upd g (90 + 4 * k) (nI H)) : kSRn v' g' n H f w := by
  have hn := hS.1.1
  have c : ∀ a, a ≤ 15 → a ≠ 13 → a ≠ 8 → v' a = v a := fun a x y z => (ev a x y).trans (kLo_c z)
  have c8 : v' 8 = upd (v 8) k (nI H) := by rw [ev 8 (by decide) (by decide), kLo_8, hS.2.1.2.1]
  refine hS.re_kn (fun a x0 x1 x2 x3 x4 x5 x6 => c a x0 x2 x6) (fun s _ => by rw [c 0 (by decide) (by decide) (by decide)]) (fun j hj => by rw [eg, pk_un (by omega)]) (fun i hi => ?_)
  obtain ⟨t, m, wy, ht, hm, hwy, x1, x2, x3, x4, x5, x6, x7⟩ := hS.2.2.2.2.2.2.2.2.1 i hi
  refine ⟨t, m, wy, ht, hm, hwy, ?_, ?_, ?_, ?_, ?_, ?_, ?_⟩
  · rw [c 5 (by decide) (by decide) (by decide)]
    exact x1
  · rw [eg, pk_un (by omega)]
    exact x2
  · rw [c 6 (by decide) (by decide) (by decide)]
    exact x3
  · rw [eg, pk_un (by omega)]
    exact x4
  · rw [c 7 (by decide) (by decide) (by decide)]
    exact x5
  · rw [eg, pk_un (by omega)]
    exact x6
  · rw [c8, eg]
    by_cases e : i = k
    · subst e
      rw [pk_us, pk_us]
    · rw [pk_un e, pk_un (j := 90 + 4 * i) (k := 90 + 4 * k) (by omega)]
      exact x7
theorem mLo_n {k : Nat} (hk : k < 15) : mLo h (nI k) = kU h 89 (90 + 4 * k) (h 89 1) := by
  unfold mLo
  rw [show (87 : Int32) + 4 * nI k + 3 = nI (87 + 4 * k + 3) from ix87 k 3, nI_clamp (by omega), show 87 + 4 * k + 3 = 90 + 4 * k by omega]
theorem nI_m1 {a : Nat} (ha : a < 2 ^ 31) : ¬ nI a = -1 := by
  intro e
  have e2 := congrArg Int32.toInt e
  rw [nI_toInt ha] at e2
  have e3 : (-1 : Int32).toInt = -1 := rfl
  omega
theorem k3d {p j : Nat} (hp : p < 5) (hj : j < 3) : nI (3 * p + j) / 3 = nI p := by
  have e : nI (3 * p + j) / 3 = nI ((3 * p + j) / 3) := pk_div (by omega) (by decide) (by decide)
  rw [e, show (3 * p + j) / 3 = p by omega]
theorem sg_X7_loose_0 {G : kG} {d : Nat} {Q : Int32 → kM → Prop}  {a1 : Int32} {a2 : Int32} {h : kM} (hd : 5 ≤ d)  (H :
    ((¬ (kb ((0 ≤ a1 ∧ a1 < h 1 12) ∧ (0 ≤ a2 ∧ a2 < 3))) = 0 →
      (vp_in a1 5) ∧
      (vp_in (((3 : Int32) * a1) + a2) 15) ∧
      ((¬ (kb (h (1 + 8) ((((3 : Int32) * a1) + a2)).toNatClampNeg = -1 ∧ kDay (h 1 13) ∧ ¬ (h 4 (a1).toNatClampNeg) / 64 = 1)) = 0 →
        (vp_in (((3 : Int32) * a1) + a2) 15) ∧
        ∀ h6 : kM, h6 = kU h 9 ((((3 : Int32) * a1) + a2)).toNatClampNeg (h 1 13) →
        (vp_in (((3 : Int32) * a1) + a2) 15 ∧ kTxtOk h6 (1 + 11)) ∧
        ∀ (h8 : kM), kS1 1 h6 h8 →
        Q (kFo (kVw h6 1) ((((3 : Int32) * a1) + a2)).toNatClampNeg (0 : Int32)) h8
      ) ∧ ((kb (h (1 + 8) ((((3 : Int32) * a1) + a2)).toNatClampNeg = -1 ∧ kDay (h 1 13) ∧ ¬ (h 4 (a1).toNatClampNeg) / 64 = 1)) = 0 →
        (vp_in (3 : Int32) 7) ∧
        ∀ h10 : kM, h10 = kErr h 87 (3 : Int32) →
        Q (-1000000000 - (3 : Int32)) h10
      ))
    ) ∧ ((kb ((0 ≤ a1 ∧ a1 < h 1 12) ∧ (0 ≤ a2 ∧ a2 < 3))) = 0 →
      (vp_in (1 : Int32) 7) ∧
      ∀ h12 : kM, h12 = kErr h 87 (1 : Int32) →
      Q (-1000000000 - (1 : Int32)) h12
    ))) : Wp G d m_X7_loose (kEo G d m_X7_loose Q) 0 [.ref 0, .int a1, .int a2, .null] [] h := by
  refine wp_aload_n 1 dX7_loose_0 rfl rfl ?_
  refine wp_iload_n 2 dX7_loose_1 rfl rfl ?_
  refine wp_iload_n 3 dX7_loose_2 rfl rfl ?_
  refine wp_cV (d - 1) 2 [.int a1, .int a2] [] 6 dX7_loose_3 rfl (lk_X7_104 rfl) (by omega) kd_0 rfl rfl rfl (Nat.le_of_ble_eq_true rfl) (sp_X7_isKnot (by omega)  ?_)
  refine wp_if_ne 15 9 dX7_loose_6 rfl rfl ⟨fun c1 => ?_, fun c1 => ?_⟩
  · replace H := H.1 c1
    refine wp_iconst (3 : Int32) 16 dX7_loose_15 kiconst_3 rfl ?_
    refine wp_iload_n 17 dX7_loose_16 rfl rfl ?_
    refine wp_imul 18 dX7_loose_17 rfl ?_
    refine wp_iload_n 19 dX7_loose_18 rfl rfl ?_
    refine wp_iadd 20 dX7_loose_19 rfl ?_
    refine wp_istore_n 21 dX7_loose_20 rfl (Nat.le_of_ble_eq_true rfl) rfl ?_
    refine wp_aload_n 22 dX7_loose_21 rfl rfl ?_
    refine wp_getR 1 1 25 dX7_loose_22 rfl fl_X7_12 kd_0 rfl rfl rfl rfl ?_
    refine wp_iload_n 26 dX7_loose_25 rfl rfl ?_
    refine wp_aload_n 27 dX7_loose_26 rfl rfl ?_
    refine wp_getR 1 1 30 dX7_loose_27 rfl fl_X7_12 kd_0 rfl rfl rfl rfl ?_
    refine wp_getI 33 dX7_loose_30 rfl fl_X7_126 kd_1 rfl ?_
    refine wp_aload_n 34 dX7_loose_33 rfl rfl ?_
    refine wp_getR 1 1 37 dX7_loose_34 rfl fl_X7_12 kd_0 rfl rfl rfl rfl ?_
    refine wp_getR 3 4 40 dX7_loose_37 rfl fl_X7_88 kd_1 rfl rfl rfl rfl ?_
    refine wp_iload_n 41 dX7_loose_40 rfl rfl ?_
    have c2 := H.1; replace H := H.2
    refine wp_iald 42 dX7_loose_41 rfl kd_4 c2 ?_
    have c3 := H.1; replace H := H.2
    refine wp_cV (d - 1) 3 [.int (((3 : Int32) * a1) + a2), .int (h 1 13), .int (h 4 (a1).toNatClampNeg)] [] 45 dX7_loose_42 rfl (lk_X7_129 rfl) (by omega) kd_1 rfl rfl rfl (Nat.le_of_ble_eq_true rfl) (sp_X2_mayBeLoosed (by omega) kSea_is1 c3 ?_)
    refine wp_if_ne 54 48 dX7_loose_45 rfl rfl ⟨fun c4 => ?_, fun c4 => ?_⟩
    · replace H := H.1 c4
      refine wp_aload_n 55 dX7_loose_54 rfl rfl ?_
      refine wp_getR 1 1 58 dX7_loose_55 rfl fl_X7_12 kd_0 rfl rfl rfl rfl ?_
      refine wp_getR 8 9 61 dX7_loose_58 rfl fl_X7_132 kd_1 rfl rfl rfl rfl ?_
      refine wp_iload_n 62 dX7_loose_61 rfl rfl ?_
      refine wp_aload_n 63 dX7_loose_62 rfl rfl ?_
      refine wp_getR 1 1 66 dX7_loose_63 rfl fl_X7_12 kd_0 rfl rfl rfl rfl ?_
      refine wp_getI 69 dX7_loose_66 rfl fl_X7_126 kd_1 rfl ?_
      have c5 := H.1; replace H := H.2
      refine wp_iast 70 dX7_loose_69 rfl kd_9 c5 ?_
      refine wp_nm (fun h6 eh6 => ?_)
      replace H := H h6 eh6
      refine wp_aload_n 71 dX7_loose_70 rfl rfl ?_
      refine wp_getR 1 1 74 dX7_loose_71 rfl fl_X7_12 kd_0 rfl rfl rfl rfl ?_
      refine wp_iload_n 75 dX7_loose_74 rfl rfl ?_
      refine wp_iconst (0 : Int32) 76 dX7_loose_75 kiconst_0 rfl ?_
      have c7 := H.1; replace H := H.2
      refine wp_cV (d - 1) 2 [.int (((3 : Int32) * a1) + a2), .int (0 : Int32)] [] 79 dX7_loose_76 rfl (lk_X7_135 rfl) (by omega) kd_1 rfl rfl rfl (Nat.le_of_ble_eq_true rfl) (sp_X2_force (by omega) kSea_is1 c7 (fun h8 eh8 => ?_))
      replace H := H h8 eh8
      exact wp_reti dX7_loose_79 rfl H
    · replace H := H.2 c4
      refine wp_aload_n 49 dX7_loose_48 rfl rfl ?_
      refine wp_iconst (3 : Int32) 50 dX7_loose_49 kiconst_3 rfl ?_
      have c9 := H.1; replace H := H.2
      refine wp_cV (d - 1) 1 [.int (3 : Int32)] [] 53 dX7_loose_50 rfl (lk_X7_62 rfl) (by omega) kd_0 rfl rfl rfl (Nat.le_of_ble_eq_true rfl) (sp_X7_error (by omega) c9 (fun h10 eh10 => ?_))
      replace H := H h10 eh10
      exact wp_reti dX7_loose_53 rfl H
  · replace H := H.2 c1
    refine wp_aload_n 10 dX7_loose_9 rfl rfl ?_
    refine wp_iconst (1 : Int32) 11 dX7_loose_10 kiconst_1 rfl ?_
    have c11 := H.1; replace H := H.2
    refine wp_cV (d - 1) 1 [.int (1 : Int32)] [] 14 dX7_loose_11 rfl (lk_X7_62 rfl) (by omega) kd_0 rfl rfl rfl (Nat.le_of_ble_eq_true rfl) (sp_X7_error (by omega) c11 (fun h12 eh12 => ?_))
    replace H := H h12 eh12
    exact wp_reti dX7_loose_14 rfl H

theorem cg_X7_loose {G : kG} {d : Nat} {Q : Int32 → kM → Prop}  {a1 : Int32} {a2 : Int32} {h : kM} (hd : 5 ≤ d)  (H :
    ((¬ (kb ((0 ≤ a1 ∧ a1 < h 1 12) ∧ (0 ≤ a2 ∧ a2 < 3))) = 0 →
      (vp_in a1 5) ∧
      (vp_in (((3 : Int32) * a1) + a2) 15) ∧
      ((¬ (kb (h (1 + 8) ((((3 : Int32) * a1) + a2)).toNatClampNeg = -1 ∧ kDay (h 1 13) ∧ ¬ (h 4 (a1).toNatClampNeg) / 64 = 1)) = 0 →
        (vp_in (((3 : Int32) * a1) + a2) 15) ∧
        ∀ h6 : kM, h6 = kU h 9 ((((3 : Int32) * a1) + a2)).toNatClampNeg (h 1 13) →
        (vp_in (((3 : Int32) * a1) + a2) 15 ∧ kTxtOk h6 (1 + 11)) ∧
        ∀ (h8 : kM), kS1 1 h6 h8 →
        Q (kFo (kVw h6 1) ((((3 : Int32) * a1) + a2)).toNatClampNeg (0 : Int32)) h8
      ) ∧ ((kb (h (1 + 8) ((((3 : Int32) * a1) + a2)).toNatClampNeg = -1 ∧ kDay (h 1 13) ∧ ¬ (h 4 (a1).toNatClampNeg) / 64 = 1)) = 0 →
        (vp_in (3 : Int32) 7) ∧
        ∀ h10 : kM, h10 = kErr h 87 (3 : Int32) →
        Q (-1000000000 - (3 : Int32)) h10
      ))
    ) ∧ ((kb ((0 ≤ a1 ∧ a1 < h 1 12) ∧ (0 ≤ a2 ∧ a2 < 3))) = 0 →
      (vp_in (1 : Int32) 7) ∧
      ∀ h12 : kM, h12 = kErr h 87 (1 : Int32) →
      Q (-1000000000 - (1 : Int32)) h12
    ))) : Cal G d m_X7_loose [.ref 0, .int a1, .int a2] h Q :=
  Cal.of [.ref 0, .int a1, .int a2, .null] (by decide +kernel) (Nat.le_of_ble_eq_true rfl) rfl (sg_X7_loose_0 hd  H)

theorem sg_X8_loose_0 {G : kG} {d : Nat} {Q : Int32 → kM → Prop}  {a1 : Int32} {a2 : Int32} {h : kM} (hd : 6 ≤ d)  (H :
    ((¬ (kb ((0 ≤ a1 ∧ a1 ≤ h 89 0 - 1) ∧ (0 ≤ a2 ∧ a2 ≤ 2))) = 0 →
      (okI (((3 : Int32) * a1) + a2) 3 ∧ okO ((((3 : Int32) * a1) + a2) / 3) 2) ∧
      ((¬ (kb (mIt (h 89) (((3 : Int32) * a1) + a2) 3 = -1 ∧ kDay (h 89 1) ∧ ¬ mOf (h 89) ((((3 : Int32) * a1) + a2) / 3) 2 = 1)) = 0 →
        (okI (((3 : Int32) * a1) + a2) 3) ∧
        ∀ h5 : kM, h5 = mLo h (((3 : Int32) * a1) + a2) →
        Cal G (d - 1) m_X8_force [.ref 88, .int (((3 : Int32) * a1) + a2)] h5 (fun x6 h7 =>
          Q x6 h7
        )
      ) ∧ ((kb (mIt (h 89) (((3 : Int32) * a1) + a2) 3 = -1 ∧ kDay (h 89 1) ∧ ¬ mOf (h 89) ((((3 : Int32) * a1) + a2) / 3) 2 = 1)) = 0 →
        (vp_in (3 : Int32) 7) ∧
        ∀ h9 : kM, h9 = kErr h 93 (3 : Int32) →
        Q (-1000000000 - (3 : Int32)) h9
      ))
    ) ∧ ((kb ((0 ≤ a1 ∧ a1 ≤ h 89 0 - 1) ∧ (0 ≤ a2 ∧ a2 ≤ 2))) = 0 →
      (vp_in (1 : Int32) 7) ∧
      ∀ h11 : kM, h11 = kErr h 93 (1 : Int32) →
      Q (-1000000000 - (1 : Int32)) h11
    ))) : Wp G d m_X8_loose (kEo G d m_X8_loose Q) 0 [.ref 88, .int a1, .int a2, .null] [] h := by
  refine wp_aload_n 1 dX8_loose_0 rfl rfl ?_
  refine wp_iload_n 2 dX8_loose_1 rfl rfl ?_
  refine wp_iload_n 3 dX8_loose_2 rfl rfl ?_
  refine wp_cV (d - 1) 2 [.int a1, .int a2] [] 6 dX8_loose_3 rfl (lk_X8_164 rfl) (by omega) kd_88 rfl rfl rfl (Nat.le_of_ble_eq_true rfl) (sp_X8_isKnot (by omega)  ?_)
  refine wp_if_ne 15 9 dX8_loose_6 rfl rfl ⟨fun c1 => ?_, fun c1 => ?_⟩
  · replace H := H.1 c1
    refine wp_iconst (3 : Int32) 16 dX8_loose_15 kiconst_3 rfl ?_
    refine wp_iload_n 17 dX8_loose_16 rfl rfl ?_
    refine wp_imul 18 dX8_loose_17 rfl ?_
    refine wp_iload_n 19 dX8_loose_18 rfl rfl ?_
    refine wp_iadd 20 dX8_loose_19 rfl ?_
    refine wp_istore_n 21 dX8_loose_20 rfl (Nat.le_of_ble_eq_true rfl) rfl ?_
    refine wp_aload_n 22 dX8_loose_21 rfl rfl ?_
    refine wp_iload_n 23 dX8_loose_22 rfl rfl ?_
    have c2 := H.1; replace H := H.2
    refine wp_cV (d - 1) 1 [.int (((3 : Int32) * a1) + a2)] [] 26 dX8_loose_23 rfl (lk_X8_174 rfl) (by omega) kd_88 rfl rfl rfl (Nat.le_of_ble_eq_true rfl) (sp_X8_mayLoose (by omega) c2 ?_)
    refine wp_if_ne 35 29 dX8_loose_26 rfl rfl ⟨fun c3 => ?_, fun c3 => ?_⟩
    · replace H := H.1 c3
      refine wp_aload_n 36 dX8_loose_35 rfl rfl ?_
      refine wp_iload_n 37 dX8_loose_36 rfl rfl ?_
      have c4 := H.1; replace H := H.2
      refine wp_cV (d - 1) 1 [.int (((3 : Int32) * a1) + a2)] [] 40 dX8_loose_37 rfl (lk_X8_177 rfl) (by omega) kd_88 rfl rfl rfl (Nat.le_of_ble_eq_true rfl) (sp_X8_looses (by omega) c4 (fun h5 eh5 => ?_))
      replace H := H h5 eh5
      refine wp_aload_n 41 dX8_loose_40 rfl rfl ?_
      refine wp_iload_n 42 dX8_loose_41 rfl rfl ?_
      refine wp_cV (d - 1) 1 [.int (((3 : Int32) * a1) + a2)] [] 45 dX8_loose_42 rfl (lk_X8_133 rfl) (by omega) kd_88 rfl rfl rfl (Nat.le_of_ble_eq_true rfl) (H.mono (fun x6 h7 H => ?_))
      exact wp_reti dX8_loose_45 rfl H
    · replace H := H.2 c3
      refine wp_aload_n 30 dX8_loose_29 rfl rfl ?_
      refine wp_iconst (3 : Int32) 31 dX8_loose_30 kiconst_3 rfl ?_
      have c8 := H.1; replace H := H.2
      refine wp_cV (d - 1) 1 [.int (3 : Int32)] [] 34 dX8_loose_31 rfl (lk_X8_62 rfl) (by omega) kd_88 rfl rfl rfl (Nat.le_of_ble_eq_true rfl) (sp_X8_error (by omega) c8 (fun h9 eh9 => ?_))
      replace H := H h9 eh9
      exact wp_reti dX8_loose_34 rfl H
  · replace H := H.2 c1
    refine wp_aload_n 10 dX8_loose_9 rfl rfl ?_
    refine wp_iconst (1 : Int32) 11 dX8_loose_10 kiconst_1 rfl ?_
    have c10 := H.1; replace H := H.2
    refine wp_cV (d - 1) 1 [.int (1 : Int32)] [] 14 dX8_loose_11 rfl (lk_X8_62 rfl) (by omega) kd_88 rfl rfl rfl (Nat.le_of_ble_eq_true rfl) (sp_X8_error (by omega) c10 (fun h11 eh11 => ?_))
    replace H := H h11 eh11
    exact wp_reti dX8_loose_14 rfl H

theorem cg_X8_loose {G : kG} {d : Nat} {Q : Int32 → kM → Prop}  {a1 : Int32} {a2 : Int32} {h : kM} (hd : 6 ≤ d)  (H :
    ((¬ (kb ((0 ≤ a1 ∧ a1 ≤ h 89 0 - 1) ∧ (0 ≤ a2 ∧ a2 ≤ 2))) = 0 →
      (okI (((3 : Int32) * a1) + a2) 3 ∧ okO ((((3 : Int32) * a1) + a2) / 3) 2) ∧
      ((¬ (kb (mIt (h 89) (((3 : Int32) * a1) + a2) 3 = -1 ∧ kDay (h 89 1) ∧ ¬ mOf (h 89) ((((3 : Int32) * a1) + a2) / 3) 2 = 1)) = 0 →
        (okI (((3 : Int32) * a1) + a2) 3) ∧
        ∀ h5 : kM, h5 = mLo h (((3 : Int32) * a1) + a2) →
        Cal G (d - 1) m_X8_force [.ref 88, .int (((3 : Int32) * a1) + a2)] h5 (fun x6 h7 =>
          Q x6 h7
        )
      ) ∧ ((kb (mIt (h 89) (((3 : Int32) * a1) + a2) 3 = -1 ∧ kDay (h 89 1) ∧ ¬ mOf (h 89) ((((3 : Int32) * a1) + a2) / 3) 2 = 1)) = 0 →
        (vp_in (3 : Int32) 7) ∧
        ∀ h9 : kM, h9 = kErr h 93 (3 : Int32) →
        Q (-1000000000 - (3 : Int32)) h9
      ))
    ) ∧ ((kb ((0 ≤ a1 ∧ a1 ≤ h 89 0 - 1) ∧ (0 ≤ a2 ∧ a2 ≤ 2))) = 0 →
      (vp_in (1 : Int32) 7) ∧
      ∀ h11 : kM, h11 = kErr h 93 (1 : Int32) →
      Q (-1000000000 - (1 : Int32)) h11
    ))) : Cal G d m_X8_loose [.ref 88, .int a1, .int a2] h Q :=
  Cal.of [.ref 88, .int a1, .int a2, .null] (by decide +kernel) (Nat.le_of_ble_eq_true rfl) rfl (sg_X8_loose_0 hd  H)

theorem st_loose (hd : 6 ≤ d) (hR : kRel h) (a1 a2 : Int32) : kStp G d m_X7_loose m_X8_loose [.int a1, .int a2] h := by
  obtain ⟨n, H, f, w, hS, hH⟩ := hR.n
  obtain ⟨hn, n1, n2⟩ := hS.1
  have n1 : h 1 12 = nI n := n1
  have e13 : h 1 13 = nI H := hS.2.1.2.1
  have g1 : h 89 1 = nI H := hS.2.1.2.2
  by_cases hc : (0 ≤ a1 ∧ a1 < nI n) ∧ (0 ≤ a2 ∧ a2 < 3)
  · obtain ⟨p, j, hp, hj, rfl, rfl⟩ := kKn hn hc
    obtain ⟨x, x1, x2, x3, x4, x5, x6, x7, x8, x9⟩ := (hS.2.2.2.2.2.2.2.1 p hp).xy
    have x4 : h 4 p = kPl x := x4
    obtain ⟨t, m, wy, ht, hm, hwy, y1, y2, y3, y4, y5, y6, y7⟩ := hS.2.2.2.2.2.2.2.2.1 (3 * p + j) (by omega)
    have y7 : h 9 (3 * p + j) = h 89 (90 + 4 * (3 * p + j)) := y7
    have vk : vp_in (nI (3 * p + j)) 15 := vp_in_nI (by omega) (by decide)
    have ek : nI (3 * p + j) / 3 = nI p := k3d (by omega) hj
    have hck : (0 ≤ nI p ∧ nI p ≤ nI n - 1) ∧ (0 ≤ nI j ∧ nI j ≤ 2) := (kKm hn).mpr hc
    refine cg_X7_loose (by omega) ⟨fun _ => ⟨vp_in_nI (by omega) (by decide), ?_⟩, fun q => absurd (by rw [n1]; exact hc) (kb_0.mp q)⟩
    rw [ix3, nI_clamp (n := 3 * p + j) (by omega), nI_clamp (n := p) (by omega), x4, kPl_st x1 x2, e13]
    by_cases hy : h 9 (3 * p + j) = -1 ∧ kDay (nI H) ∧ ¬ nI x.2 = 1
    · refine ⟨vk, ⟨fun _ => ⟨vk, fun h6 e6 => ?_⟩, fun z => absurd hy (kb_0.mp z)⟩⟩
      have o6 : ∀ a, a ≠ 9 → h6 a = h a := fun a ha => by rw [e6, kU_ne ha]
      have hT : kTxtOk h6 (1 + 11) := by
        have t0 : kTxtOk h (1 + 11) := hS.ok.2.1
        unfold kTxtOk at t0 ⊢
        rw [o6 (1 + 11) (by decide), o6 (1 + 11 + 1) (by decide)]
        exact t0
      refine ⟨⟨vk, hT⟩, fun h8 q8 => ?_⟩
      have hS6 : kSRn (kVw h6 1) (upd (h 89) (90 + 4 * (3 * p + j)) (nI H)) n H f w := by
        refine hS.lo (k := 3 * p + j) (by omega) (fun a z1 z2 => ?_) rfl
        show h6 (1 + a) = (if a = 8 then upd (h 9) (3 * p + j) (h 1 13) else h (1 + a))
        by_cases e : a = 8
        · subst e
          rw [if_pos rfl, e6, e13]
          exact kU_eq
        · rw [if_neg e, o6 _ (by omega)]
      have o8 : h8 89 = h 89 := by rw [q8 89 (by decide) (by decide), o6 89 (by decide)]
      refine cg_X8_loose hd ⟨fun _ => ?_, fun q => absurd (by rw [o8, n2]; exact hck) (kb_0.mp q)⟩
      rw [ix3, ek, mIt_3 (by omega), mOf_2 (by omega), o8, ← y7, x7, g1]
      refine ⟨⟨okI_n (w := 3) (by omega) (by decide), okO_n (w := 2) (by omega) (by decide)⟩, ⟨fun _ => ⟨okI_n (w := 3) (by omega) (by decide), fun h9 e9 => ?_⟩, fun z => absurd hy (kb_0.mp z)⟩⟩
      rw [mLo_n (by omega), o8, g1] at e9
      have g9 : h9 89 = upd (h 89) (90 + 4 * (3 * p + j)) (nI H) := by rw [e9, kU_eq, o8]
      refine sp_X8_force (d := d - 1) (by omega) (v := kVw h6 1) (k := 3 * p + j) (hS6.congr2 g9) (by omega) (fun h10 q10 => ⟨?_, ?_⟩)
      · have e8 : kVw h6 1 8 (3 * p + j) = nI H := by
          show h6 9 (3 * p + j) = _
          rw [e6, kU_eq, pk_us]
        have e0 : kVw h6 1 0 13 = nI H := by
          show h6 1 13 = _
          rw [o6 1 (by decide), e13]
        unfold kFv
        rw [e8, e0, if_neg (nI_m1 (by omega)), Int32.sub_self]
      · have o10 : ∀ a, a ≠ 9 → a ≠ 89 → a ≠ 14 → a ≠ 17 → a ≠ 95 → a ≠ 96 → h10 a = h a := fun a z1 z2 z3 z4 z5 z6 => by rw [q10 a z5 z6, e9, kU_ne z2, q8 a z3 z4, o6 a z1]
        have g10 : h10 89 = upd (h 89) (90 + 4 * (3 * p + j)) (nI H) := by rw [q10.g, g9]
        refine hR.sea (fun a z1 z2 z3 z4 z5 => o10 a (by omega) z5 (by omega) (by omega) (by unfold kScr at z2; omega) (by unfold kScr at z2; omega)) ?_ ?_ ?_ ?_ ⟨n, H, f, w, ?_, hH⟩
        · rw [o10 0 (by decide) (by decide) (by decide) (by decide) (by decide) (by decide)]
        · rw [o10 76 (by decide) (by decide) (by decide) (by decide) (by decide) (by decide)]
        · rw [o10 88 (by decide) (by decide) (by decide) (by decide) (by decide) (by decide)]
        · rw [o10 88 (by decide) (by decide) (by decide) (by decide) (by decide) (by decide)]
        · refine (hS6.congr2 g10).eq (fun a z1 z2 => ?_)
          show h10 (1 + a) = h6 (1 + a)
          rw [q10 (1 + a) (by omega) (by omega), e9, kU_ne (by omega), q8 (1 + a) (by omega) (by omega)]
    · refine ⟨vk, ⟨fun z => absurd (kb_n0.mp z) hy, fun _ => ⟨kin7 (n := 3) (by decide), fun h1 e1 => ?_⟩⟩⟩
      have o1 : h1 89 = h 89 := by rw [e1, kErr_ne (by decide)]
      refine cg_X8_loose hd ⟨fun _ => ?_, fun q => absurd (by rw [o1, n2]; exact hck) (kb_0.mp q)⟩
      rw [ix3, ek, mIt_3 (by omega), mOf_2 (by omega), o1, ← y7, x7, g1]
      exact ⟨⟨okI_n (w := 3) (by omega) (by decide), okO_n (w := 2) (by omega) (by decide)⟩, ⟨fun z => absurd (kb_n0.mp z) hy, fun _ => ⟨kin7 (n := 3) (by decide), kErrs hR h1 e1⟩⟩⟩
  · refine cg_X7_loose (by omega) ⟨fun q => absurd (by have := kb_n0.mp q; rw [n1] at this; exact this) hc, fun _ => ⟨kin7 (n := 1) (by decide), fun h1 e1 => ?_⟩⟩
    have x0 : h1 89 0 = nI n := by rw [e1, kErr_ne (by decide)]; exact n2
    exact cg_X8_loose hd ⟨fun q => absurd ((kKm hn).mp (by have := kb_n0.mp q; rw [x0] at this; exact this)) hc, fun _ => ⟨kin7 (n := 1) (by decide), kErrs hR h1 e1⟩⟩
def at_X7_isUnder_4 (G : kG) (d : Nat) (Q : Int32 → kM → Prop)  (v0 : Int32) (v1 : Int32) (v2 : Int32) (v3 : Int32) (h : kM) : Prop := Wp G d m_X7_isUnder (kEo G d m_X7_isUnder Q) 4 [.int v0, .int v1, .int v2, .int v3] [] h
theorem sg_X7_isUnder_0 {G : kG} {d : Nat} {Q : Int32 → kM → Prop}  {a1 : Int32} {a2 : Int32} {h : kM} (hd : 2 ≤ d)  (H :
    at_X7_isUnder_4 G d Q a1 a2 a1 (0 : Int32) h) : Wp G d m_X7_isUnder (kEo G d m_X7_isUnder Q) 0 [.int a1, .int a2, .null, .null] [] h := by
  refine wp_iload_n 1 dX7_isUnder_0 rfl rfl ?_
  refine wp_istore_n 2 dX7_isUnder_1 rfl (Nat.le_of_ble_eq_true rfl) rfl ?_
  refine wp_iconst (0 : Int32) 3 dX7_isUnder_2 kiconst_0 rfl ?_
  refine wp_istore_n 4 dX7_isUnder_3 rfl (Nat.le_of_ble_eq_true rfl) rfl ?_
  exact H

theorem cg_X7_isUnder {G : kG} {d : Nat} {Q : Int32 → kM → Prop}  {a1 : Int32} {a2 : Int32} {h : kM} (hd : 2 ≤ d)  (H :
    at_X7_isUnder_4 G d Q a1 a2 a1 (0 : Int32) h) : Cal G d m_X7_isUnder [.int a1, .int a2] h Q :=
  Cal.of [.int a1, .int a2, .null, .null] (by decide +kernel) (Nat.le_of_ble_eq_true rfl) rfl (sg_X7_isUnder_0 hd  H)

theorem sg_X7_isUnder_4 {G : kG} {d : Nat} {Q : Int32 → kM → Prop}  {v0 : Int32} {v1 : Int32} {v2 : Int32} {v3 : Int32} {h : kM} (hd : 2 ≤ d)  (H :
    (((7 : Int32) ≤ v3 →
      Q (0 : Int32) h
    ) ∧ (¬ ((7 : Int32) ≤ v3) →
      (((kb (0 ≤ v2 ∧ v2 < (7 : Int32))) = 0 →
        Q (0 : Int32) h
      ) ∧ (¬ ((kb (0 ≤ v2 ∧ v2 < (7 : Int32))) = 0) →
        ((¬ v2 = v1 →
          (vp_in v2 7) ∧
          at_X7_isUnder_4 G d Q v0 v1 (kAb.getD (v2).toNatClampNeg 0) (v3 + (1 : Int32)) h
        ) ∧ (v2 = v1 →
          Q (1 : Int32) h
        ))
      ))
    ))) : at_X7_isUnder_4 G d Q v0 v1 v2 v3 h := by
  show Wp G d m_X7_isUnder (kEo G d m_X7_isUnder Q) 4 [.int v0, .int v1, .int v2, .int v3] [] h
  refine wp_iload_n 5 dX7_isUnder_4 rfl rfl ?_
  refine wp_bipush (7 : Int32) 7 dX7_isUnder_5 kbipush_7 rfl ?_
  refine wp_icmp_ge 38 10 dX7_isUnder_7 rfl rfl ⟨fun c1 => ?_, fun c1 => ?_⟩
  · replace H := H.1 c1
    refine wp_iconst (0 : Int32) 39 dX7_isUnder_38 kiconst_0 rfl ?_
    exact wp_retz dX7_isUnder_39 rfl (Or.inl rfl) H
  · replace H := H.2 c1
    refine wp_iload_n 11 dX7_isUnder_10 rfl rfl ?_
    refine wp_bipush (7 : Int32) 13 dX7_isUnder_11 kbipush_7 rfl ?_
    refine wp_cS (d - 1) 2 [.int v2, .int (7 : Int32)] [] 16 dX7_isUnder_13 rfl (lk_X7_58 rfl) (by omega) rfl rfl (Nat.le_of_ble_eq_true rfl) (sp_X7_within (by omega)  ?_)
    refine wp_if_eq 38 19 dX7_isUnder_16 rfl rfl ⟨fun c2 => ?_, fun c2 => ?_⟩
    · replace H := H.1 c2
      refine wp_iconst (0 : Int32) 39 dX7_isUnder_38 kiconst_0 rfl ?_
      exact wp_retz dX7_isUnder_39 rfl (Or.inl rfl) H
    · replace H := H.2 c2
      refine wp_iload_n 20 dX7_isUnder_19 rfl rfl ?_
      refine wp_iload_n 21 dX7_isUnder_20 rfl rfl ?_
      refine wp_icmp_ne 26 24 dX7_isUnder_21 rfl rfl ⟨fun c3 => ?_, fun c3 => ?_⟩
      · replace H := H.1 c3
        refine wp_getsA 29 dX7_isUnder_26 rfl gs_X7_285 ?_
        refine wp_iload_n 30 dX7_isUnder_29 rfl rfl ?_
        have c4 := H.1; replace H := H.2
        refine wp_ialdA 31 dX7_isUnder_30 rfl c4 ?_
        refine wp_istore_n 32 dX7_isUnder_31 rfl (Nat.le_of_ble_eq_true rfl) rfl ?_
        refine wp_iinc (1 : Int32) 35 dX7_isUnder_32 rfl rfl kiconst_1 (Nat.le_of_ble_eq_true rfl) rfl ?_
        refine wp_goto 4 dX7_isUnder_35 rfl ?_
        exact H
      · replace H := H.2 c3
        refine wp_iconst (1 : Int32) 25 dX7_isUnder_24 kiconst_1 rfl ?_
        exact wp_retz dX7_isUnder_25 rfl (Or.inr rfl) H

theorem sg_X8_isUnder_0 {G : kG} {d : Nat} {Q : Int32 → kM → Prop}  {a1 : Int32} {a2 : Int32} {h : kM} (hd : 1 ≤ d)  (H :
    ((a2 = 0 →
      Q (1 : Int32) h
    ) ∧ (¬ (a2 = 0) →
      ((a1 = a2 →
        Q (1 : Int32) h
      ) ∧ (¬ (a1 = a2) →
        ((¬ a2 = (1 : Int32) →
          ((¬ a2 = (2 : Int32) →
            Q (0 : Int32) h
          ) ∧ (a2 = (2 : Int32) →
            ((¬ a1 = (5 : Int32) →
              Q (0 : Int32) h
            ) ∧ (a1 = (5 : Int32) →
              Q (1 : Int32) h
            ))
          ))
        ) ∧ (a2 = (1 : Int32) →
          ((a1 = (4 : Int32) →
            Q (1 : Int32) h
          ) ∧ (¬ (a1 = (4 : Int32)) →
            ((¬ a2 = (2 : Int32) →
              Q (0 : Int32) h
            ) ∧ (a2 = (2 : Int32) →
              ((¬ a1 = (5 : Int32) →
                Q (0 : Int32) h
              ) ∧ (a1 = (5 : Int32) →
                Q (1 : Int32) h
              ))
            ))
          ))
        ))
      ))
    ))) : Wp G d m_X8_isUnder (kEo G d m_X8_isUnder Q) 0 [.int a1, .int a2] [] h := by
  refine wp_iload_n 1 dX8_isUnder_0 rfl rfl ?_
  refine wp_if_eq 29 4 dX8_isUnder_1 rfl rfl ⟨fun c1 => ?_, fun c1 => ?_⟩
  · replace H := H.1 c1
    refine wp_iconst (1 : Int32) 30 dX8_isUnder_29 kiconst_1 rfl ?_
    refine wp_goto 34 dX8_isUnder_30 rfl ?_
    exact wp_retz dX8_isUnder_34 rfl (Or.inr rfl) H
  · replace H := H.2 c1
    refine wp_iload_n 5 dX8_isUnder_4 rfl rfl ?_
    refine wp_iload_n 6 dX8_isUnder_5 rfl rfl ?_
    refine wp_icmp_eq 29 9 dX8_isUnder_6 rfl rfl ⟨fun c2 => ?_, fun c2 => ?_⟩
    · replace H := H.1 c2
      refine wp_iconst (1 : Int32) 30 dX8_isUnder_29 kiconst_1 rfl ?_
      refine wp_goto 34 dX8_isUnder_30 rfl ?_
      exact wp_retz dX8_isUnder_34 rfl (Or.inr rfl) H
    · replace H := H.2 c2
      refine wp_iload_n 10 dX8_isUnder_9 rfl rfl ?_
      refine wp_iconst (1 : Int32) 11 dX8_isUnder_10 kiconst_1 rfl ?_
      refine wp_icmp_ne 19 14 dX8_isUnder_11 rfl rfl ⟨fun c3 => ?_, fun c3 => ?_⟩
      · replace H := H.1 c3
        refine wp_iload_n 20 dX8_isUnder_19 rfl rfl ?_
        refine wp_iconst (2 : Int32) 21 dX8_isUnder_20 kiconst_2 rfl ?_
        refine wp_icmp_ne 33 24 dX8_isUnder_21 rfl rfl ⟨fun c4 => ?_, fun c4 => ?_⟩
        · replace H := H.1 c4
          refine wp_iconst (0 : Int32) 34 dX8_isUnder_33 kiconst_0 rfl ?_
          exact wp_retz dX8_isUnder_34 rfl (Or.inl rfl) H
        · replace H := H.2 c4
          refine wp_iload_n 25 dX8_isUnder_24 rfl rfl ?_
          refine wp_iconst (5 : Int32) 26 dX8_isUnder_25 kiconst_5 rfl ?_
          refine wp_icmp_ne 33 29 dX8_isUnder_26 rfl rfl ⟨fun c5 => ?_, fun c5 => ?_⟩
          · replace H := H.1 c5
            refine wp_iconst (0 : Int32) 34 dX8_isUnder_33 kiconst_0 rfl ?_
            exact wp_retz dX8_isUnder_34 rfl (Or.inl rfl) H
          · replace H := H.2 c5
            refine wp_iconst (1 : Int32) 30 dX8_isUnder_29 kiconst_1 rfl ?_
            refine wp_goto 34 dX8_isUnder_30 rfl ?_
            exact wp_retz dX8_isUnder_34 rfl (Or.inr rfl) H
      · replace H := H.2 c3
        refine wp_iload_n 15 dX8_isUnder_14 rfl rfl ?_
        refine wp_iconst (4 : Int32) 16 dX8_isUnder_15 kiconst_4 rfl ?_
        refine wp_icmp_eq 29 19 dX8_isUnder_16 rfl rfl ⟨fun c6 => ?_, fun c6 => ?_⟩
        · replace H := H.1 c6
          refine wp_iconst (1 : Int32) 30 dX8_isUnder_29 kiconst_1 rfl ?_
          refine wp_goto 34 dX8_isUnder_30 rfl ?_
          exact wp_retz dX8_isUnder_34 rfl (Or.inr rfl) H
        · replace H := H.2 c6
          refine wp_iload_n 20 dX8_isUnder_19 rfl rfl ?_
          refine wp_iconst (2 : Int32) 21 dX8_isUnder_20 kiconst_2 rfl ?_
          refine wp_icmp_ne 33 24 dX8_isUnder_21 rfl rfl ⟨fun c7 => ?_, fun c7 => ?_⟩
          · replace H := H.1 c7
            refine wp_iconst (0 : Int32) 34 dX8_isUnder_33 kiconst_0 rfl ?_
            exact wp_retz dX8_isUnder_34 rfl (Or.inl rfl) H
          · replace H := H.2 c7
            refine wp_iload_n 25 dX8_isUnder_24 rfl rfl ?_
            refine wp_iconst (5 : Int32) 26 dX8_isUnder_25 kiconst_5 rfl ?_
            refine wp_icmp_ne 33 29 dX8_isUnder_26 rfl rfl ⟨fun c8 => ?_, fun c8 => ?_⟩
            · replace H := H.1 c8
              refine wp_iconst (0 : Int32) 34 dX8_isUnder_33 kiconst_0 rfl ?_
              exact wp_retz dX8_isUnder_34 rfl (Or.inl rfl) H
            · replace H := H.2 c8
              refine wp_iconst (1 : Int32) 30 dX8_isUnder_29 kiconst_1 rfl ?_
              refine wp_goto 34 dX8_isUnder_30 rfl ?_
              exact wp_retz dX8_isUnder_34 rfl (Or.inr rfl) H

theorem cg_X8_isUnder {G : kG} {d : Nat} {Q : Int32 → kM → Prop}  {a1 : Int32} {a2 : Int32} {h : kM} (hd : 1 ≤ d)  (H :
    ((a2 = 0 →
      Q (1 : Int32) h
    ) ∧ (¬ (a2 = 0) →
      ((a1 = a2 →
        Q (1 : Int32) h
      ) ∧ (¬ (a1 = a2) →
        ((¬ a2 = (1 : Int32) →
          ((¬ a2 = (2 : Int32) →
            Q (0 : Int32) h
          ) ∧ (a2 = (2 : Int32) →
            ((¬ a1 = (5 : Int32) →
              Q (0 : Int32) h
            ) ∧ (a1 = (5 : Int32) →
              Q (1 : Int32) h
            ))
          ))
        ) ∧ (a2 = (1 : Int32) →
          ((a1 = (4 : Int32) →
            Q (1 : Int32) h
          ) ∧ (¬ (a1 = (4 : Int32)) →
            ((¬ a2 = (2 : Int32) →
              Q (0 : Int32) h
            ) ∧ (a2 = (2 : Int32) →
              ((¬ a1 = (5 : Int32) →
                Q (0 : Int32) h
              ) ∧ (a1 = (5 : Int32) →
                Q (1 : Int32) h
              ))
            ))
          ))
        ))
      ))
    ))) : Cal G d m_X8_isUnder [.int a1, .int a2] h Q :=
  Cal.of [.int a1, .int a2] (by decide +kernel) (Nat.le_of_ble_eq_true rfl) rfl (sg_X8_isUnder_0 hd  H)

theorem sg_X7_as_0 {G : kG} {d : Nat} {Q : Int32 → kM → Prop}  {a1 : Int32} {a2 : Int32} {a3 : Int32} {h : kM} (hd : 4 ≤ d)  (H :
    (((kb ((0 ≤ a1 ∧ a1 < h 1 12) ∧ (0 ≤ a2 ∧ a2 < 3))) = 0 →
      (vp_in (1 : Int32) 7) ∧
      ∀ h3 : kM, h3 = kErr h 87 (1 : Int32) →
      Q (-1000000000 - (1 : Int32)) h3
    ) ∧ (¬ ((kb ((0 ≤ a1 ∧ a1 < h 1 12) ∧ (0 ≤ a2 ∧ a2 < 3))) = 0) →
      ((¬ (kb (0 ≤ a3 ∧ a3 < (7 : Int32))) = 0 →
        (vp_in (((3 : Int32) * a1) + a2) 15) ∧
        Cal G (d - 1) m_X7_isUnder [.int (h 6 ((((3 : Int32) * a1) + a2)).toNatClampNeg), .int a3] h (fun x6 h7 =>
          ((¬ x6 = 0 →
            (vp_in (((3 : Int32) * a1) + a2) 15) ∧
            Q (h7 7 ((((3 : Int32) * a1) + a2)).toNatClampNeg) h7
          ) ∧ (x6 = 0 →
            (vp_in (5 : Int32) 7) ∧
            ∀ h11 : kM, h11 = kErr h7 87 (5 : Int32) →
            Q (-1000000000 - (5 : Int32)) h11
          ))
        )
      ) ∧ ((kb (0 ≤ a3 ∧ a3 < (7 : Int32))) = 0 →
        (vp_in (1 : Int32) 7) ∧
        ∀ h13 : kM, h13 = kErr h 87 (1 : Int32) →
        Q (-1000000000 - (1 : Int32)) h13
      ))
    ))) : Wp G d m_X7_as (kEo G d m_X7_as Q) 0 [.ref 0, .int a1, .int a2, .int a3, .null] [] h := by
  refine wp_aload_n 1 dX7_as_0 rfl rfl ?_
  refine wp_iload_n 2 dX7_as_1 rfl rfl ?_
  refine wp_iload_n 3 dX7_as_2 rfl rfl ?_
  refine wp_cV (d - 1) 2 [.int a1, .int a2] [] 6 dX7_as_3 rfl (lk_X7_104 rfl) (by omega) kd_0 rfl rfl rfl (Nat.le_of_ble_eq_true rfl) (sp_X7_isKnot (by omega)  ?_)
  refine wp_if_eq 18 9 dX7_as_6 rfl rfl ⟨fun c1 => ?_, fun c1 => ?_⟩
  · replace H := H.1 c1
    refine wp_aload_n 19 dX7_as_18 rfl rfl ?_
    refine wp_iconst (1 : Int32) 20 dX7_as_19 kiconst_1 rfl ?_
    have c2 := H.1; replace H := H.2
    refine wp_cV (d - 1) 1 [.int (1 : Int32)] [] 23 dX7_as_20 rfl (lk_X7_62 rfl) (by omega) kd_0 rfl rfl rfl (Nat.le_of_ble_eq_true rfl) (sp_X7_error (by omega) c2 (fun h3 eh3 => ?_))
    replace H := H h3 eh3
    exact wp_reti dX7_as_23 rfl H
  · replace H := H.2 c1
    refine wp_iload_n 10 dX7_as_9 rfl rfl ?_
    refine wp_bipush (7 : Int32) 12 dX7_as_10 kbipush_7 rfl ?_
    refine wp_cS (d - 1) 2 [.int a3, .int (7 : Int32)] [] 15 dX7_as_12 rfl (lk_X7_58 rfl) (by omega) rfl rfl (Nat.le_of_ble_eq_true rfl) (sp_X7_within (by omega)  ?_)
    refine wp_if_ne 24 18 dX7_as_15 rfl rfl ⟨fun c4 => ?_, fun c4 => ?_⟩
    · replace H := H.1 c4
      refine wp_iconst (3 : Int32) 25 dX7_as_24 kiconst_3 rfl ?_
      refine wp_iload_n 26 dX7_as_25 rfl rfl ?_
      refine wp_imul 27 dX7_as_26 rfl ?_
      refine wp_iload_n 28 dX7_as_27 rfl rfl ?_
      refine wp_iadd 29 dX7_as_28 rfl ?_
      refine wp_istore 31 dX7_as_29 rfl (Nat.le_of_ble_eq_true rfl) rfl ?_
      refine wp_aload_n 32 dX7_as_31 rfl rfl ?_
      refine wp_getR 1 1 35 dX7_as_32 rfl fl_X7_12 kd_0 rfl rfl rfl rfl ?_
      refine wp_getR 5 6 38 dX7_as_35 rfl fl_X7_110 kd_1 rfl rfl rfl rfl ?_
      refine wp_iload 40 dX7_as_38 rfl rfl ?_
      have c5 := H.1; replace H := H.2
      refine wp_iald 41 dX7_as_40 rfl kd_6 c5 ?_
      refine wp_iload_n 42 dX7_as_41 rfl rfl ?_
      refine wp_cS (d - 1) 2 [.int (h 6 ((((3 : Int32) * a1) + a2)).toNatClampNeg), .int a3] [] 45 dX7_as_42 rfl (lk_X7_123 rfl) (by omega) rfl rfl (Nat.le_of_ble_eq_true rfl) (H.mono (fun x6 h7 H => ?_))
      refine wp_if_ne 54 48 dX7_as_45 rfl rfl ⟨fun c8 => ?_, fun c8 => ?_⟩
      · replace H := H.1 c8
        refine wp_aload_n 55 dX7_as_54 rfl rfl ?_
        refine wp_getR 1 1 58 dX7_as_55 rfl fl_X7_12 kd_0 rfl rfl rfl rfl ?_
        refine wp_getR 6 7 61 dX7_as_58 rfl fl_X7_113 kd_1 rfl rfl rfl rfl ?_
        refine wp_iload 63 dX7_as_61 rfl rfl ?_
        have c9 := H.1; replace H := H.2
        refine wp_iald 64 dX7_as_63 rfl kd_7 c9 ?_
        exact wp_reti dX7_as_64 rfl H
      · replace H := H.2 c8
        refine wp_aload_n 49 dX7_as_48 rfl rfl ?_
        refine wp_iconst (5 : Int32) 50 dX7_as_49 kiconst_5 rfl ?_
        have c10 := H.1; replace H := H.2
        refine wp_cV (d - 1) 1 [.int (5 : Int32)] [] 53 dX7_as_50 rfl (lk_X7_62 rfl) (by omega) kd_0 rfl rfl rfl (Nat.le_of_ble_eq_true rfl) (sp_X7_error (by omega) c10 (fun h11 eh11 => ?_))
        replace H := H h11 eh11
        exact wp_reti dX7_as_53 rfl H
    · replace H := H.2 c4
      refine wp_aload_n 19 dX7_as_18 rfl rfl ?_
      refine wp_iconst (1 : Int32) 20 dX7_as_19 kiconst_1 rfl ?_
      have c12 := H.1; replace H := H.2
      refine wp_cV (d - 1) 1 [.int (1 : Int32)] [] 23 dX7_as_20 rfl (lk_X7_62 rfl) (by omega) kd_0 rfl rfl rfl (Nat.le_of_ble_eq_true rfl) (sp_X7_error (by omega) c12 (fun h13 eh13 => ?_))
      replace H := H h13 eh13
      exact wp_reti dX7_as_23 rfl H

theorem cg_X7_as {G : kG} {d : Nat} {Q : Int32 → kM → Prop}  {a1 : Int32} {a2 : Int32} {a3 : Int32} {h : kM} (hd : 4 ≤ d)  (H :
    (((kb ((0 ≤ a1 ∧ a1 < h 1 12) ∧ (0 ≤ a2 ∧ a2 < 3))) = 0 →
      (vp_in (1 : Int32) 7) ∧
      ∀ h3 : kM, h3 = kErr h 87 (1 : Int32) →
      Q (-1000000000 - (1 : Int32)) h3
    ) ∧ (¬ ((kb ((0 ≤ a1 ∧ a1 < h 1 12) ∧ (0 ≤ a2 ∧ a2 < 3))) = 0) →
      ((¬ (kb (0 ≤ a3 ∧ a3 < (7 : Int32))) = 0 →
        (vp_in (((3 : Int32) * a1) + a2) 15) ∧
        Cal G (d - 1) m_X7_isUnder [.int (h 6 ((((3 : Int32) * a1) + a2)).toNatClampNeg), .int a3] h (fun x6 h7 =>
          ((¬ x6 = 0 →
            (vp_in (((3 : Int32) * a1) + a2) 15) ∧
            Q (h7 7 ((((3 : Int32) * a1) + a2)).toNatClampNeg) h7
          ) ∧ (x6 = 0 →
            (vp_in (5 : Int32) 7) ∧
            ∀ h11 : kM, h11 = kErr h7 87 (5 : Int32) →
            Q (-1000000000 - (5 : Int32)) h11
          ))
        )
      ) ∧ ((kb (0 ≤ a3 ∧ a3 < (7 : Int32))) = 0 →
        (vp_in (1 : Int32) 7) ∧
        ∀ h13 : kM, h13 = kErr h 87 (1 : Int32) →
        Q (-1000000000 - (1 : Int32)) h13
      ))
    ))) : Cal G d m_X7_as [.ref 0, .int a1, .int a2, .int a3] h Q :=
  Cal.of [.ref 0, .int a1, .int a2, .int a3, .null] (by decide +kernel) (Nat.le_of_ble_eq_true rfl) rfl (sg_X7_as_0 hd  H)

theorem sg_X8_as_0 {G : kG} {d : Nat} {Q : Int32 → kM → Prop}  {a1 : Int32} {a2 : Int32} {a3 : Int32} {h : kM} (hd : 4 ≤ d)  (H :
    (((kb ((0 ≤ a1 ∧ a1 ≤ h 89 0 - 1) ∧ (0 ≤ a2 ∧ a2 ≤ 2))) = 0 →
      (vp_in (1 : Int32) 7) ∧
      ∀ h3 : kM, h3 = kErr h 93 (1 : Int32) →
      Q (-1000000000 - (1 : Int32)) h3
    ) ∧ (¬ ((kb ((0 ≤ a1 ∧ a1 ≤ h 89 0 - 1) ∧ (0 ≤ a2 ∧ a2 ≤ 2))) = 0) →
      ((¬ (kb ((0 : Int32) ≤ a3 ∧ a3 ≤ (6 : Int32))) = 0 →
        (okI (((3 : Int32) * a1) + a2) (0 : Int32)) ∧
        Cal G (d - 1) m_X8_isUnder [.int (mIt (h 89) (((3 : Int32) * a1) + a2) (0 : Int32)), .int a3] h (fun x6 h7 =>
          ((x6 = 0 →
            (vp_in (5 : Int32) 7) ∧
            ∀ h10 : kM, h10 = kErr h7 93 (5 : Int32) →
            Q (-1000000000 - (5 : Int32)) h10
          ) ∧ (¬ (x6 = 0) →
            (okI (((3 : Int32) * a1) + a2) (1 : Int32)) ∧
            Q (mIt (h7 89) (((3 : Int32) * a1) + a2) (1 : Int32)) h7
          ))
        )
      ) ∧ ((kb ((0 : Int32) ≤ a3 ∧ a3 ≤ (6 : Int32))) = 0 →
        (vp_in (1 : Int32) 7) ∧
        ∀ h13 : kM, h13 = kErr h 93 (1 : Int32) →
        Q (-1000000000 - (1 : Int32)) h13
      ))
    ))) : Wp G d m_X8_as (kEo G d m_X8_as Q) 0 [.ref 88, .int a1, .int a2, .int a3, .null] [] h := by
  refine wp_aload_n 1 dX8_as_0 rfl rfl ?_
  refine wp_iload_n 2 dX8_as_1 rfl rfl ?_
  refine wp_iload_n 3 dX8_as_2 rfl rfl ?_
  refine wp_cV (d - 1) 2 [.int a1, .int a2] [] 6 dX8_as_3 rfl (lk_X8_164 rfl) (by omega) kd_88 rfl rfl rfl (Nat.le_of_ble_eq_true rfl) (sp_X8_isKnot (by omega)  ?_)
  refine wp_if_eq 19 9 dX8_as_6 rfl rfl ⟨fun c1 => ?_, fun c1 => ?_⟩
  · replace H := H.1 c1
    refine wp_aload_n 20 dX8_as_19 rfl rfl ?_
    refine wp_iconst (1 : Int32) 21 dX8_as_20 kiconst_1 rfl ?_
    have c2 := H.1; replace H := H.2
    refine wp_cV (d - 1) 1 [.int (1 : Int32)] [] 24 dX8_as_21 rfl (lk_X8_62 rfl) (by omega) kd_88 rfl rfl rfl (Nat.le_of_ble_eq_true rfl) (sp_X8_error (by omega) c2 (fun h3 eh3 => ?_))
    replace H := H h3 eh3
    exact wp_reti dX8_as_24 rfl H
  · replace H := H.2 c1
    refine wp_iload_n 10 dX8_as_9 rfl rfl ?_
    refine wp_iconst (0 : Int32) 11 dX8_as_10 kiconst_0 rfl ?_
    refine wp_bipush (6 : Int32) 13 dX8_as_11 kbipush_6 rfl ?_
    refine wp_cS (d - 1) 3 [.int a3, .int (0 : Int32), .int (6 : Int32)] [] 16 dX8_as_13 rfl (lk_X8_50 rfl) (by omega) rfl rfl (Nat.le_of_ble_eq_true rfl) (sp_X8_in (by omega)  ?_)
    refine wp_if_ne 25 19 dX8_as_16 rfl rfl ⟨fun c4 => ?_, fun c4 => ?_⟩
    · replace H := H.1 c4
      refine wp_iconst (3 : Int32) 26 dX8_as_25 kiconst_3 rfl ?_
      refine wp_iload_n 27 dX8_as_26 rfl rfl ?_
      refine wp_imul 28 dX8_as_27 rfl ?_
      refine wp_iload_n 29 dX8_as_28 rfl rfl ?_
      refine wp_iadd 30 dX8_as_29 rfl ?_
      refine wp_istore 32 dX8_as_30 rfl (Nat.le_of_ble_eq_true rfl) rfl ?_
      refine wp_aload_n 33 dX8_as_32 rfl rfl ?_
      refine wp_iload 35 dX8_as_33 rfl rfl ?_
      refine wp_iconst (0 : Int32) 36 dX8_as_35 kiconst_0 rfl ?_
      have c5 := H.1; replace H := H.2
      refine wp_cV (d - 1) 2 [.int (((3 : Int32) * a1) + a2), .int (0 : Int32)] [] 39 dX8_as_36 rfl (lk_X8_58 rfl) (by omega) kd_88 rfl rfl rfl (Nat.le_of_ble_eq_true rfl) (sp_X8_its (by omega) c5 ?_)
      refine wp_iload_n 40 dX8_as_39 rfl rfl ?_
      refine wp_cS (d - 1) 2 [.int (mIt (h 89) (((3 : Int32) * a1) + a2) (0 : Int32)), .int a3] [] 43 dX8_as_40 rfl (lk_X8_168 rfl) (by omega) rfl rfl (Nat.le_of_ble_eq_true rfl) (H.mono (fun x6 h7 H => ?_))
      refine wp_if_eq 56 46 dX8_as_43 rfl rfl ⟨fun c8 => ?_, fun c8 => ?_⟩
      · replace H := H.1 c8
        refine wp_aload_n 57 dX8_as_56 rfl rfl ?_
        refine wp_iconst (5 : Int32) 58 dX8_as_57 kiconst_5 rfl ?_
        have c9 := H.1; replace H := H.2
        refine wp_cV (d - 1) 1 [.int (5 : Int32)] [] 61 dX8_as_58 rfl (lk_X8_62 rfl) (by omega) kd_88 rfl rfl rfl (Nat.le_of_ble_eq_true rfl) (sp_X8_error (by omega) c9 (fun h10 eh10 => ?_))
        replace H := H h10 eh10
        exact wp_reti dX8_as_61 rfl H
      · replace H := H.2 c8
        refine wp_aload_n 47 dX8_as_46 rfl rfl ?_
        refine wp_iload 49 dX8_as_47 rfl rfl ?_
        refine wp_iconst (1 : Int32) 50 dX8_as_49 kiconst_1 rfl ?_
        have c11 := H.1; replace H := H.2
        refine wp_cV (d - 1) 2 [.int (((3 : Int32) * a1) + a2), .int (1 : Int32)] [] 53 dX8_as_50 rfl (lk_X8_58 rfl) (by omega) kd_88 rfl rfl rfl (Nat.le_of_ble_eq_true rfl) (sp_X8_its (by omega) c11 ?_)
        refine wp_goto 61 dX8_as_53 rfl ?_
        exact wp_reti dX8_as_61 rfl H
    · replace H := H.2 c4
      refine wp_aload_n 20 dX8_as_19 rfl rfl ?_
      refine wp_iconst (1 : Int32) 21 dX8_as_20 kiconst_1 rfl ?_
      have c12 := H.1; replace H := H.2
      refine wp_cV (d - 1) 1 [.int (1 : Int32)] [] 24 dX8_as_21 rfl (lk_X8_62 rfl) (by omega) kd_88 rfl rfl rfl (Nat.le_of_ble_eq_true rfl) (sp_X8_error (by omega) c12 (fun h13 eh13 => ?_))
      replace H := H h13 eh13
      exact wp_reti dX8_as_24 rfl H

theorem cg_X8_as {G : kG} {d : Nat} {Q : Int32 → kM → Prop}  {a1 : Int32} {a2 : Int32} {a3 : Int32} {h : kM} (hd : 4 ≤ d)  (H :
    (((kb ((0 ≤ a1 ∧ a1 ≤ h 89 0 - 1) ∧ (0 ≤ a2 ∧ a2 ≤ 2))) = 0 →
      (vp_in (1 : Int32) 7) ∧
      ∀ h3 : kM, h3 = kErr h 93 (1 : Int32) →
      Q (-1000000000 - (1 : Int32)) h3
    ) ∧ (¬ ((kb ((0 ≤ a1 ∧ a1 ≤ h 89 0 - 1) ∧ (0 ≤ a2 ∧ a2 ≤ 2))) = 0) →
      ((¬ (kb ((0 : Int32) ≤ a3 ∧ a3 ≤ (6 : Int32))) = 0 →
        (okI (((3 : Int32) * a1) + a2) (0 : Int32)) ∧
        Cal G (d - 1) m_X8_isUnder [.int (mIt (h 89) (((3 : Int32) * a1) + a2) (0 : Int32)), .int a3] h (fun x6 h7 =>
          ((x6 = 0 →
            (vp_in (5 : Int32) 7) ∧
            ∀ h10 : kM, h10 = kErr h7 93 (5 : Int32) →
            Q (-1000000000 - (5 : Int32)) h10
          ) ∧ (¬ (x6 = 0) →
            (okI (((3 : Int32) * a1) + a2) (1 : Int32)) ∧
            Q (mIt (h7 89) (((3 : Int32) * a1) + a2) (1 : Int32)) h7
          ))
        )
      ) ∧ ((kb ((0 : Int32) ≤ a3 ∧ a3 ≤ (6 : Int32))) = 0 →
        (vp_in (1 : Int32) 7) ∧
        ∀ h13 : kM, h13 = kErr h 93 (1 : Int32) →
        Q (-1000000000 - (1 : Int32)) h13
      ))
    ))) : Cal G d m_X8_as [.ref 88, .int a1, .int a2, .int a3] h Q :=
  Cal.of [.ref 88, .int a1, .int a2, .int a3, .null] (by decide +kernel) (Nat.le_of_ble_eq_true rfl) rfl (sg_X8_as_0 hd  H)

/-- a kind is another one, or under it -/
abbrev kUn (a c : Int32) : Prop := c = 0 ∨ a = c ∨ (c = 1 ∧ a = 4) ∨ (c = 2 ∧ a = 5)
theorem sp_X7_isUnder (hd : 2 ≤ d) {t : Nat} {c : Int32} (ht : t < 7) (k : Q (kb (kUn (nI t) c)) h) : Cal G d m_X7_isUnder [.int (nI t), .int c] h Q := by
  have go : ∀ (s : Nat) (y : Int32) (i : Nat), s < 7 → i < 7 → kAb.getD s 0 = y → (nI s = c → kUn (nI t) c) → (¬ nI s = c → at_X7_isUnder_4 G d Q (nI t) c y (nI (i + 1)) h) → at_X7_isUnder_4 G d Q (nI t) c (nI s) (nI i) h := by
    intro s y i hs hi hy u nx
    refine sg_X7_isUnder_4 hd ⟨fun z => absurd z (ltn (nI_lt (b := 7) hi (by decide))), fun _ => ⟨fun z => absurd (iLt hs (by decide)) (kb_0.mp z), fun _ => ⟨fun e => ⟨vp_in_nI hs (by decide), ?_⟩, fun e => kq1 k (u e)⟩⟩⟩
    rw [nI_clamp (by omega), hy, nI_1]
    exact nx e
  have fin : ∀ i, i < 7 → ¬ kUn (nI t) c → at_X7_isUnder_4 G d Q (nI t) c (-1) (nI i) h := fun i hi no =>
    sg_X7_isUnder_4 hd ⟨fun z => absurd z (ltn (nI_lt (b := 7) hi (by decide))), fun _ => ⟨fun _ => kq0 k no, fun y => absurd (kb_n0.mp y) (by decide)⟩⟩
  have root : ∀ i, i < 6 → (¬ nI 0 = c → ¬ kUn (nI t) c) → at_X7_isUnder_4 G d Q (nI t) c (nI 0) (nI i) h := fun i hi no =>
    go 0 (-1) i (by decide) (by omega) (by decide) (fun e => Or.inl (e.symm.trans nI_0)) (fun e => fin (i + 1) (by omega) (no e))
  have z0 : ¬ nI 0 = c → ¬ c = 0 := fun e u => e (by rw [u]; exact nI_0)
  refine cg_X7_isUnder hd ?_
  rcases (show t = 0 ∨ t = 1 ∨ t = 2 ∨ t = 3 ∨ t = 4 ∨ t = 5 ∨ t = 6 by omega) with rfl | rfl | rfl | rfl | rfl | rfl | rfl
  · exact root 0 (by decide) (fun e u => u.elim (z0 e) (fun u => u.elim e (fun u => u.elim (fun x => absurd x.2 (by decide)) (fun x => absurd x.2 (by decide)))))
  · exact go 1 (nI 0) 0 (by decide) (by decide) (by decide) (fun e => Or.inr (Or.inl e)) (fun e1 => root 1 (by decide) (fun e u => u.elim (z0 e) (fun u => u.elim e1 (fun u => u.elim (fun x => absurd x.2 (by decide)) (fun x => absurd x.2 (by decide))))))
  · exact go 2 (nI 0) 0 (by decide) (by decide) (by decide) (fun e => Or.inr (Or.inl e)) (fun e1 => root 1 (by decide) (fun e u => u.elim (z0 e) (fun u => u.elim e1 (fun u => u.elim (fun x => absurd x.2 (by decide)) (fun x => absurd x.2 (by decide))))))
  · exact go 3 (nI 0) 0 (by decide) (by decide) (by decide) (fun e => Or.inr (Or.inl e)) (fun e1 => root 1 (by decide) (fun e u => u.elim (z0 e) (fun u => u.elim e1 (fun u => u.elim (fun x => absurd x.2 (by decide)) (fun x => absurd x.2 (by decide))))))
  · exact go 4 (nI 1) 0 (by decide) (by decide) (by decide) (fun e => Or.inr (Or.inl e)) (fun e4 => go 1 (nI 0) 1 (by decide) (by decide) (by decide) (fun e => Or.inr (Or.inr (Or.inl ⟨e.symm, rfl⟩))) (fun e1 => root 2 (by decide) (fun e u => u.elim (z0 e) (fun u => u.elim e4 (fun u => u.elim (fun x => e1 x.1.symm) (fun x => absurd x.2 (by decide)))))))
  · exact go 5 (nI 2) 0 (by decide) (by decide) (by decide) (fun e => Or.inr (Or.inl e)) (fun e5 => go 2 (nI 0) 1 (by decide) (by decide) (by decide) (fun e => Or.inr (Or.inr (Or.inr ⟨e.symm, rfl⟩))) (fun e2 => root 2 (by decide) (fun e u => u.elim (z0 e) (fun u => u.elim e5 (fun u => u.elim (fun x => absurd x.2 (by decide)) (fun x => e2 x.1.symm))))))
  · exact go 6 (nI 0) 0 (by decide) (by decide) (by decide) (fun e => Or.inr (Or.inl e)) (fun e1 => root 1 (by decide) (fun e u => u.elim (z0 e) (fun u => u.elim e1 (fun u => u.elim (fun x => absurd x.2 (by decide)) (fun x => absurd x.2 (by decide))))))
theorem sp_X8_isUnder (hd : 1 ≤ d) {a c : Int32} (k : Q (kb (kUn a c)) h) : Cal G d m_X8_isUnder [.int a, .int c] h Q :=
  cg_X8_isUnder hd ⟨fun e => kq1 k (Or.inl e), fun n0 => ⟨fun e => kq1 k (Or.inr (Or.inl e)), fun na => ⟨fun n1 => ⟨fun n2 => kq0 k (fun u => u.elim n0 (fun u => u.elim na (fun u => u.elim (fun x => n1 x.1) (fun x => n2 x.1)))), fun e2 => ⟨fun n5 => kq0 k (fun u => u.elim n0 (fun u => u.elim na (fun u => u.elim (fun x => n1 x.1) (fun x => n5 x.2)))), fun e5 => kq1 k (Or.inr (Or.inr (Or.inr ⟨e2, e5⟩)))⟩⟩, fun e1 => ⟨fun e4 => kq1 k (Or.inr (Or.inr (Or.inl ⟨e1, e4⟩))), fun n4 => ⟨fun n2 => kq0 k (fun u => u.elim n0 (fun u => u.elim na (fun u => u.elim (fun x => n4 x.2) (fun x => n2 x.1)))), fun e2 => absurd (e1.symm.trans e2) (by decide)⟩⟩⟩⟩⟩
theorem st_as (hd : 4 ≤ d) (hR : kRel h) (a1 a2 a3 : Int32) : kStp G d m_X7_as m_X8_as [.int a1, .int a2, .int a3] h := by
  obtain ⟨n, H, f, w, hS, hH⟩ := hR.n
  obtain ⟨hn, n1, n2⟩ := hS.1
  have n1 : h 1 12 = nI n := n1
  by_cases hc : (0 ≤ a1 ∧ a1 < nI n) ∧ (0 ≤ a2 ∧ a2 < 3)
  · by_cases hv : 0 ≤ a3 ∧ a3 < 7
    · obtain ⟨p, j, hp, hj, rfl, rfl⟩ := kKn hn hc
      obtain ⟨t, m, wy, ht, hm, hwy, y1, y2, y3, y4, y5, y6, y7⟩ := hS.2.2.2.2.2.2.2.2.1 (3 * p + j) (by omega)
      have y1 : h 6 (3 * p + j) = nI t := y1
      have y3 : h 7 (3 * p + j) = nI m := y3
      have vk : vp_in (nI (3 * p + j)) 15 := vp_in_nI (by omega) (by decide)
      have hck : (0 ≤ nI p ∧ nI p ≤ nI n - 1) ∧ (0 ≤ nI j ∧ nI j ≤ 2) := (kKm hn).mpr hc
      refine cg_X7_as hd ⟨fun q => absurd (by rw [n1]; exact hc) (kb_0.mp q), fun _ => ⟨fun _ => ?_, fun q => absurd hv (kb_0.mp q)⟩⟩
      rw [ix3, nI_clamp (by omega), y1]
      refine ⟨vk, sp_X7_isUnder (d := d - 1) (by omega) ht ⟨fun z => ⟨vk, ?_⟩, fun z => ⟨kin7 (n := 5) (by decide), fun h1 e1 => ?_⟩⟩⟩
      · rw [y3]
        refine cg_X8_as hd ⟨fun q => absurd (by rw [n2]; exact hck) (kb_0.mp q), fun _ => ⟨fun _ => ?_, fun q => absurd (i6.mpr hv) (kb_0.mp q)⟩⟩
        rw [ix3, mIt_0 (by omega), y2]
        refine ⟨okI_n (w := 0) (by omega) (by decide), sp_X8_isUnder (d := d - 1) (by omega) ⟨fun z2 => absurd z2 z, fun _ => ⟨okI_n (w := 1) (by omega) (by decide), ?_, hR⟩⟩⟩
        rw [mIt_1 (by omega), y4]
      · have o1 : h1 89 = h 89 := by rw [e1, kErr_ne (by decide)]
        refine cg_X8_as hd ⟨fun q => absurd (by rw [o1, n2]; exact hck) (kb_0.mp q), fun _ => ⟨fun _ => ?_, fun q => absurd (i6.mpr hv) (kb_0.mp q)⟩⟩
        rw [ix3, mIt_0 (by omega), o1, y2]
        exact ⟨okI_n (w := 0) (by omega) (by decide), sp_X8_isUnder (d := d - 1) (by omega) ⟨fun _ => ⟨kin7 (n := 5) (by decide), kErrs hR h1 e1⟩, fun z2 => absurd z z2⟩⟩
    · refine cg_X7_as hd ⟨fun q => absurd (by rw [n1]; exact hc) (kb_0.mp q), fun _ => ⟨fun q => absurd (kb_n0.mp q) hv, fun _ => ⟨kin7 (n := 1) (by decide), fun h1 e1 => ?_⟩⟩⟩
      have x0 : h1 89 0 = nI n := by rw [e1, kErr_ne (by decide)]; exact n2
      exact cg_X8_as hd ⟨fun q => absurd (by rw [x0]; exact (kKm hn).mpr hc) (kb_0.mp q), fun _ => ⟨fun q => absurd (i6.mp (kb_n0.mp q)) hv, fun _ => ⟨kin7 (n := 1) (by decide), kErrs hR h1 e1⟩⟩⟩
  · refine cg_X7_as hd ⟨fun _ => ⟨kin7 (n := 1) (by decide), fun h1 e1 => ?_⟩, fun q => absurd (by have := kb_n0.mp q; rw [n1] at this; exact this) hc⟩
    have x0 : h1 89 0 = nI n := by rw [e1, kErr_ne (by decide)]; exact n2
    exact cg_X8_as hd ⟨fun _ => ⟨kin7 (n := 1) (by decide), kErrs hR h1 e1⟩, fun q => absurd ((kKm hn).mp (by have := kb_n0.mp q; rw [x0] at this; exact this)) hc⟩
theorem kSRn.tie {v v' : kM} {g g' : Nat → Int32} {n H f w k t m y : Nat} (hS : kSRn v g n H f w) (hk : k < 3 * n) (ht : t < 7) (hm : m < 10) (hy : y < 4) (ev : ∀ a, a ≤ 15 → a ≠ 13 → a ≠ 5 → a ≠ 6 → a ≠ 7 → a ≠ 8 → v' a = v a) (e5 : v' 5 = upd (v 5) k (nI t)) (e6 : v' 6 = upd (v 6) k (nI m)) (e7 : v' 7 = upd (v 7) k (nI y)) (e8 : v' 8 = upd (v 8) k (-1)) (eg : g' = upd (upd (upd (upd g (87 + 4 * k) (nI t)) (88 + 4 * k) (nI m)) (89 + 4 * k) (nI y)) (90 + 4 * k) (-1)) : kSRn v' g' n H f w := by
  have hn := hS.1.1
  refine hS.re_kn (fun a x0 x1 x2 x3 x4 x5 x6 => ev a x0 x2 x3 x4 x5 x6) (fun s _ => by rw [ev 0 (by decide) (by decide) (by decide) (by decide) (by decide) (by decide)]) (fun j hj => by rw [eg, pk_un (by omega), pk_un (by omega), pk_un (by omega), pk_un (by omega)]) (fun i hi => ?_)
  by_cases e : i = k
  · subst e
    refine ⟨t, m, y, ht, hm, hy, by rw [e5, pk_us], ?_, by rw [e6, pk_us], ?_, by rw [e7, pk_us], ?_, by rw [e8, eg, pk_us, pk_us]⟩
    · rw [eg, pk_un (by omega), pk_un (by omega), pk_un (by omega), pk_us]
    · rw [eg, pk_un (by omega), pk_un (by omega), pk_us]
    · rw [eg, pk_un (by omega), pk_us]
  · obtain ⟨t', m', y', ht', hm', hy', x1, x2, x3, x4, x5, x6, x7⟩ := hS.2.2.2.2.2.2.2.2.1 i hi
    refine ⟨t', m', y', ht', hm', hy', by rw [e5, pk_un e]; exact x1, ?_, by rw [e6, pk_un e]; exact x3, ?_, by rw [e7, pk_un e]; exact x5, ?_, ?_⟩
    · rw [eg, pk_un (by omega), pk_un (by omega), pk_un (by omega), pk_un (by omega)]
      exact x2
    · rw [eg, pk_un (by omega), pk_un (by omega), pk_un (by omega), pk_un (by omega)]
      exact x4
    · rw [eg, pk_un (by omega), pk_un (by omega), pk_un (by omega), pk_un (by omega)]
      exact x6
    · rw [e8, eg, pk_un e, pk_un (j := 90 + 4 * i) (by omega), pk_un (j := 90 + 4 * i) (by omega), pk_un (j := 90 + 4 * i) (by omega), pk_un (j := 90 + 4 * i) (by omega)]
      exact x7
theorem kTie_n {b k : Nat} {km y : Int32} (hk : k < 15) : kTie h b (nI k) km y = kU (kU (kU (kU h (b + 5) k (km / 10)) (b + 6) k (iR km 10)) (b + 7) k y) (b + 8) k (-1) := by
  unfold kTie
  rw [nI_clamp (by omega)]
theorem mTie_n {k : Nat} {km y : Int32} (hk : k < 15) : mTie h (nI k) km y = kU (kU (kU (kU h 89 (87 + 4 * k) (km / 10)) 89 (88 + 4 * k) (iR km 10)) 89 (89 + 4 * k) y) 89 (90 + 4 * k) (-1) := by
  unfold mTie
  rw [show (87 : Int32) + 4 * nI k + 0 = nI (87 + 4 * k + 0) from ix87 k 0, show (87 : Int32) + 4 * nI k + 1 = nI (87 + 4 * k + 1) from ix87 k 1, show (87 : Int32) + 4 * nI k + 2 = nI (87 + 4 * k + 2) from ix87 k 2, show (87 : Int32) + 4 * nI k + 3 = nI (87 + 4 * k + 3) from ix87 k 3, nI_clamp (by omega), nI_clamp (by omega), nI_clamp (by omega), nI_clamp (by omega), show 87 + 4 * k + 1 = 88 + 4 * k by omega, show 87 + 4 * k + 2 = 89 + 4 * k by omega, show 87 + 4 * k + 3 = 90 + 4 * k by omega, Nat.add_zero]
theorem st_tie (hd : 5 ≤ d) (hR : kRel h) (a1 a2 a3 a4 : Int32) : kStp G d m_X7_tie m_X8_tie [.int a1, .int a2, .int a3, .int a4] h := by
  obtain ⟨n, H, f, w, hS, hH⟩ := hR.n
  obtain ⟨hn, n1, n2⟩ := hS.1
  have n1 : h 1 12 = nI n := n1
  by_cases hc : (0 ≤ a1 ∧ a1 < nI n) ∧ (0 ≤ a2 ∧ a2 < 3)
  · by_cases hv : 0 ≤ a3 ∧ a3 < 70
    · by_cases hu : 0 ≤ a4 ∧ a4 < 4
      · obtain ⟨p, j, hp, hj, rfl, rfl⟩ := kKn hn hc
        obtain ⟨x, hx, rfl⟩ := iI (n := 70) (by decide) hv.1 hv.2
        obtain ⟨y, hy, rfl⟩ := iI (n := 4) (by decide) hu.1 hu.2
        obtain ⟨t, m, wy, ht, hm, hwy, y1, y2, y3, y4, y5, y6, y7⟩ := hS.2.2.2.2.2.2.2.2.1 (3 * p + j) (by omega)
        have y1 : h 6 (3 * p + j) = nI t := y1
        have y3 : h 7 (3 * p + j) = nI m := y3
        have y5 : h 8 (3 * p + j) = nI wy := y5
        have vk : vp_in (nI (3 * p + j)) 15 := vp_in_nI (by omega) (by decide)
        have hck : (0 ≤ nI p ∧ nI p ≤ nI n - 1) ∧ (0 ≤ nI j ∧ nI j ≤ 2) := (kKm hn).mpr hc
        have ex : nI x / 10 = nI (x / 10) := pk_div (by omega) (by decide) (by decide)
        have er : iR (nI x) 10 = nI (x % 10) := pk_rem (by omega) (by decide) (by decide)
        refine cg_X7_tie hd ⟨fun q => absurd (by rw [n1]; exact hc) (kb_0.mp q), fun _ => ⟨fun q => absurd hv (kb_0.mp q), fun _ => ⟨fun _ => ?_, fun q => absurd hu (kb_0.mp q)⟩⟩⟩
        rw [ix3, nI_clamp (by omega), y1, y3, y5]
        refine ⟨vk, vk, vk, vk, fun h1 e1 => ?_⟩
        rw [kTie_n (by omega), ex, er] at e1
        have o1 : ∀ a, a ≠ 6 → a ≠ 7 → a ≠ 8 → a ≠ 9 → h1 a = h a := fun a z1 z2 z3 z4 => by rw [e1, kU_ne z4, kU_ne z3, kU_ne z2, kU_ne z1]
        have o189 : h1 89 = h 89 := o1 89 (by decide) (by decide) (by decide) (by decide)
        refine cg_X8_tie hd ⟨fun q => absurd (by rw [o189, n2]; exact hck) (kb_0.mp q), fun _ => ⟨fun q => absurd (i69.mpr hv) (kb_0.mp q), fun _ => ⟨fun _ => ?_, fun q => absurd (i3.mpr hu) (kb_0.mp q)⟩⟩⟩
        rw [ix3, mIt_2 (by omega), mIt_0 (by omega), mIt_1 (by omega), o189, y2, y4, y6]
        have o : ∀ w, w < 4 → okI (nI (3 * p + j)) (nI w) := fun w hw => okI_n (by omega) hw
        refine ⟨o 2 (by decide), o 0 (by decide), o 1 (by decide), ⟨o 0 (by decide), o 1 (by decide), o 2 (by decide), o 3 (by decide)⟩, fun h2 e2 => ⟨rfl, ?_⟩⟩
        rw [mTie_n (by omega), ex, er] at e2
        have g2 : h2 89 = upd (upd (upd (upd (h 89) (87 + 4 * (3 * p + j)) (nI (x / 10))) (88 + 4 * (3 * p + j)) (nI (x % 10))) (89 + 4 * (3 * p + j)) (nI y)) (90 + 4 * (3 * p + j)) (-1) := by rw [e2, kU_eq, kU_eq, kU_eq, kU_eq, o189]
        have q2 : ∀ a, a ≠ 89 → h2 a = h1 a := fun a z => by rw [e2, kU_ne z, kU_ne z, kU_ne z, kU_ne z]
        refine hR.now (fun a z1 z2 => by rw [q2 a z1, o1 a (by omega) (by omega) (by omega) (by omega)]) ⟨n, H, f, w, hS.tie (k := 3 * p + j) (t := x / 10) (m := x % 10) (y := y) (by omega) (by omega) (by omega) hy (fun a z1 z2 z3 z4 z5 z6 => ?_) ?_ ?_ ?_ ?_ g2, hH⟩
        · show h2 (1 + a) = h (1 + a)
          rw [q2 _ (by omega), o1 _ (by omega) (by omega) (by omega) (by omega)]
        · show h2 6 = upd (h 6) _ _
          rw [q2 6 (by decide), e1, kU_ne (by decide), kU_ne (by decide), kU_ne (by decide), kU_eq]
        · show h2 7 = upd (h 7) _ _
          rw [q2 7 (by decide), e1, kU_ne (by decide), kU_ne (by decide), kU_eq, kU_ne (by decide)]
        · show h2 8 = upd (h 8) _ _
          rw [q2 8 (by decide), e1, kU_ne (by decide), kU_eq, kU_ne (by decide), kU_ne (by decide)]
        · show h2 9 = upd (h 9) _ _
          rw [q2 9 (by decide), e1, kU_eq, kU_ne (by decide), kU_ne (by decide), kU_ne (by decide)]
      · refine cg_X7_tie hd ⟨fun q => absurd (by rw [n1]; exact hc) (kb_0.mp q), fun _ => ⟨fun q => absurd hv (kb_0.mp q), fun _ => ⟨fun q => absurd (kb_n0.mp q) hu, fun _ => ⟨kin7 (n := 1) (by decide), fun h1 e1 => ?_⟩⟩⟩⟩
        have x0 : h1 89 0 = nI n := by rw [e1, kErr_ne (by decide)]; exact n2
        exact cg_X8_tie hd ⟨fun q => absurd (by rw [x0]; exact (kKm hn).mpr hc) (kb_0.mp q), fun _ => ⟨fun q => absurd (i69.mpr hv) (kb_0.mp q), fun _ => ⟨fun q => absurd (i3.mp (kb_n0.mp q)) hu, fun _ => ⟨kin7 (n := 1) (by decide), kErrs hR h1 e1⟩⟩⟩⟩
    · refine cg_X7_tie hd ⟨fun q => absurd (by rw [n1]; exact hc) (kb_0.mp q), fun _ => ⟨fun _ => ⟨kin7 (n := 1) (by decide), fun h1 e1 => ?_⟩, fun q => absurd (kb_n0.mp q) hv⟩⟩
      have x0 : h1 89 0 = nI n := by rw [e1, kErr_ne (by decide)]; exact n2
      exact cg_X8_tie hd ⟨fun q => absurd (by rw [x0]; exact (kKm hn).mpr hc) (kb_0.mp q), fun _ => ⟨fun _ => ⟨kin7 (n := 1) (by decide), kErrs hR h1 e1⟩, fun q => absurd (i69.mp (kb_n0.mp q)) hv⟩⟩
  · refine cg_X7_tie hd ⟨fun _ => ⟨kin7 (n := 1) (by decide), fun h1 e1 => ?_⟩, fun q => absurd (by have := kb_n0.mp q; rw [n1] at this; exact this) hc⟩
    have x0 : h1 89 0 = nI n := by rw [e1, kErr_ne (by decide)]; exact n2
    exact cg_X8_tie hd ⟨fun _ => ⟨kin7 (n := 1) (by decide), kErrs hR h1 e1⟩, fun q => absurd ((kKm hn).mp (by have := kb_n0.mp q; rw [x0] at this; exact this)) hc⟩
end Knots

