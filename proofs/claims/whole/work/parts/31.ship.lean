/-! ship; feed, untell; image, restore -/
section Tape
variable {G : kG} {d : Nat} {Q : Int32 → kM → Prop} {h : kM}
def kT3 (f : Nat → Int32) (p i : Nat) (x : Int32) : Nat → Int32 := fun k => if 3 * p ≤ k ∧ k < 3 * p + i then x else f k
theorem kT3_s {f : Nat → Int32} {p i : Nat} {x : Int32} : upd (kT3 f p i x) (3 * p + i) x = kT3 f p (i + 1) x := by
  funext k
  show upd (kT3 f p i x) (3 * p + i) x k = (if 3 * p ≤ k ∧ k < 3 * p + (i + 1) then x else f k)
  by_cases e : k = 3 * p + i
  · rw [e, pk_us, if_pos (by omega)]
  · rw [pk_un e]
    show (if 3 * p ≤ k ∧ k < 3 * p + i then x else f k) = _
    by_cases c : 3 * p ≤ k ∧ k < 3 * p + i
    · rw [if_pos c, if_pos (by omega)]
    · rw [if_neg c, if_neg (by omega)]
theorem kT3_0 {f : Nat → Int32} {p : Nat} {x : Int32} : kT3 f p 0 x = f := by
  funext k
  show (if 3 * p ≤ k ∧ k < 3 * p + 0 then x else f k) = f k
  rw [if_neg (by omega)]
theorem kT3_in {f : Nat → Int32} {p k : Nat} {x : Int32} (h1 : 3 * p ≤ k) (h2 : k < 3 * p + 3) : kT3 f p 3 x k = x := if_pos ⟨h1, h2⟩
theorem kT3_lo {f : Nat → Int32} {p k : Nat} {x : Int32} (h1 : k < 3 * p) : kT3 f p 3 x k = f k := if_neg (by omega)
def at_X2_launch_26 (G : kG) (d : Nat) (Q : Int32 → kM → Prop) (b : Nat) (v1 : Int32) (v2 : Int32) (v3 : Int32) (v4 : Int32) (h : kM) : Prop := Wp G d m_X2_launch (kEo G d m_X2_launch Q) 26 [.ref b, .int v1, .int v2, .int v3, .int v4] [] h
theorem sg_X2_launch_0 {G : kG} {d : Nat} {Q : Int32 → kM → Prop} {b : Nat} {a1 : Int32} {a2 : Int32} {h : kM} (hd : 2 ≤ d) (k_b : kSea b) (H :
    (vp_in (h b 12) 5) ∧
    ∀ h2 : kM, h2 = kU h (b + 3) ((h b 12)).toNatClampNeg (kLaid a1 a2) →
    (vp_in (h b 12) 5) ∧
    ∀ h4 : kM, h4 = kU h2 (b + 4) ((h b 12)).toNatClampNeg a2 →
    at_X2_launch_26 G d Q b a1 a2 (h b 12) (0 : Int32) h4) : Wp G d m_X2_launch (kEo G d m_X2_launch Q) 0 [.ref b, .int a1, .int a2, .null, .null] [] h := by
  refine wp_aload_n 1 dX2_launch_0 rfl rfl ?_
  refine wp_getI 4 dX2_launch_1 rfl fl_X2_66 (kSea_0 k_b) rfl ?_
  refine wp_istore_n 5 dX2_launch_4 rfl (Nat.le_of_ble_eq_true rfl) rfl ?_
  refine wp_aload_n 6 dX2_launch_5 rfl rfl ?_
  refine wp_getR 3 (b + 3) 9 dX2_launch_6 rfl fl_X2_18 (kSea_0 k_b) rfl rfl rfl rfl ?_
  refine wp_iload_n 10 dX2_launch_9 rfl rfl ?_
  refine wp_iload_n 11 dX2_launch_10 rfl rfl ?_
  refine wp_iload_n 12 dX2_launch_11 rfl rfl ?_
  refine wp_cN (d - 1) 2 [.int a1, .int a2] [.int (h b 12), .ref (b + 3)] 15 dX2_launch_12 rfl (lk_X2_78 rfl) (by omega) rfl rfl (Nat.le_of_ble_eq_true rfl) (sp_X7_laid (by omega)  ?_)
  have c1 := H.1; replace H := H.2
  refine wp_iast 16 dX2_launch_15 rfl (kSea_3 k_b) c1 ?_
  refine wp_nm (fun h2 eh2 => ?_)
  replace H := H h2 eh2
  refine wp_aload_n 17 dX2_launch_16 rfl rfl ?_
  refine wp_getR 4 (b + 4) 20 dX2_launch_17 rfl fl_X2_21 (kSea_0 k_b) rfl rfl rfl rfl ?_
  refine wp_iload_n 21 dX2_launch_20 rfl rfl ?_
  refine wp_iload_n 22 dX2_launch_21 rfl rfl ?_
  have c3 := H.1; replace H := H.2
  refine wp_iast 23 dX2_launch_22 rfl (kSea_4 k_b) c3 ?_
  refine wp_nm (fun h4 eh4 => ?_)
  replace H := H h4 eh4
  refine wp_iconst (0 : Int32) 24 dX2_launch_23 kiconst_0 rfl ?_
  refine wp_istore 26 dX2_launch_24 rfl (Nat.le_of_ble_eq_true rfl) rfl ?_
  exact H

theorem cg_X2_launch {G : kG} {d : Nat} {Q : Int32 → kM → Prop} {b : Nat} {a1 : Int32} {a2 : Int32} {h : kM} (hd : 2 ≤ d) (k_b : kSea b) (H :
    (vp_in (h b 12) 5) ∧
    ∀ h2 : kM, h2 = kU h (b + 3) ((h b 12)).toNatClampNeg (kLaid a1 a2) →
    (vp_in (h b 12) 5) ∧
    ∀ h4 : kM, h4 = kU h2 (b + 4) ((h b 12)).toNatClampNeg a2 →
    at_X2_launch_26 G d Q b a1 a2 (h b 12) (0 : Int32) h4) : Cal G d m_X2_launch [.ref b, .int a1, .int a2] h Q :=
  Cal.of [.ref b, .int a1, .int a2, .null, .null] (by decide +kernel) (Nat.le_of_ble_eq_true rfl) rfl (sg_X2_launch_0 hd k_b H)

theorem sg_X2_launch_26 {G : kG} {d : Nat} {Q : Int32 → kM → Prop} {b : Nat} {v1 : Int32} {v2 : Int32} {v3 : Int32} {v4 : Int32} {h : kM} (hd : 2 ≤ d) (k_b : kSea b) (H :
    (((3 : Int32) ≤ v4 →
      ∀ h2 : kM, h2 = kU h b 12 ((h b 12) + (1 : Int32)) →
      Q v3 h2
    ) ∧ (¬ ((3 : Int32) ≤ v4) →
      (vp_in (((3 : Int32) * v3) + v4) 15) ∧
      ∀ h4 : kM, h4 = kTie h b (((3 : Int32) * v3) + v4) (0 : Int32) (0 : Int32) →
      at_X2_launch_26 G d Q b v1 v2 v3 (v4 + (1 : Int32)) h4
    ))) : at_X2_launch_26 G d Q b v1 v2 v3 v4 h := by
  show Wp G d m_X2_launch (kEo G d m_X2_launch Q) 26 [.ref b, .int v1, .int v2, .int v3, .int v4] [] h
  refine wp_iload 28 dX2_launch_26 rfl rfl ?_
  refine wp_iconst (3 : Int32) 29 dX2_launch_28 kiconst_3 rfl ?_
  refine wp_icmp_ge 50 32 dX2_launch_29 rfl rfl ⟨fun c1 => ?_, fun c1 => ?_⟩
  · replace H := H.1 c1
    refine wp_aload_n 51 dX2_launch_50 rfl rfl ?_
    refine wp_dup 52 dX2_launch_51 rfl rfl ?_
    refine wp_getI 55 dX2_launch_52 rfl fl_X2_66 (kSea_0 k_b) rfl ?_
    refine wp_iconst (1 : Int32) 56 dX2_launch_55 kiconst_1 rfl ?_
    refine wp_iadd 57 dX2_launch_56 rfl ?_
    refine wp_putI 60 dX2_launch_57 rfl fl_X2_66 fin_2_12 (kSea_0 k_b) rfl ?_
    refine wp_nm (fun h2 eh2 => ?_)
    replace H := H h2 eh2
    refine wp_iload_n 61 dX2_launch_60 rfl rfl ?_
    exact wp_reti dX2_launch_61 rfl H
  · replace H := H.2 c1
    refine wp_aload_n 33 dX2_launch_32 rfl rfl ?_
    refine wp_iconst (3 : Int32) 34 dX2_launch_33 kiconst_3 rfl ?_
    refine wp_iload_n 35 dX2_launch_34 rfl rfl ?_
    refine wp_imul 36 dX2_launch_35 rfl ?_
    refine wp_iload 38 dX2_launch_36 rfl rfl ?_
    refine wp_iadd 39 dX2_launch_38 rfl ?_
    refine wp_iconst (0 : Int32) 40 dX2_launch_39 kiconst_0 rfl ?_
    refine wp_iconst (0 : Int32) 41 dX2_launch_40 kiconst_0 rfl ?_
    have c3 := H.1; replace H := H.2
    refine wp_cV (d - 1) 3 [.int (((3 : Int32) * v3) + v4), .int (0 : Int32), .int (0 : Int32)] [] 44 dX2_launch_41 rfl (lk_X2_82 rfl) (by omega) (kSea_0 k_b) rfl rfl rfl (Nat.le_of_ble_eq_true rfl) (sp_X2_tieAnew (by omega) k_b c3 (fun h4 eh4 => ?_))
    replace H := H h4 eh4
    refine wp_iinc (1 : Int32) 47 dX2_launch_44 rfl rfl kiconst_1 (Nat.le_of_ble_eq_true rfl) rfl ?_
    refine wp_goto 26 dX2_launch_47 rfl ?_
    exact H

theorem sg_X7_ship_0 {G : kG} {d : Nat} {Q : Int32 → kM → Prop}  {a1 : Int32} {a2 : Int32} {h : kM} (hd : 3 ≤ d)  (H :
    (((kb (0 ≤ a1 ∧ a1 < (64 : Int32))) = 0 →
      (vp_in (1 : Int32) 7) ∧
      ∀ h3 : kM, h3 = kErr h 87 (1 : Int32) →
      Q (-1000000000 - (1 : Int32)) h3
    ) ∧ (¬ ((kb (0 ≤ a1 ∧ a1 < (64 : Int32))) = 0) →
      ((¬ (kb (0 ≤ a2 ∧ a2 < (64 : Int32))) = 0 →
        (((h 1 12) < (5 : Int32) →
          Cal G (d - 1) m_X2_launch [.ref 1, .int a1, .int a2] h (fun x6 h7 =>
            Q x6 h7
          )
        ) ∧ (¬ ((h 1 12) < (5 : Int32)) →
          (vp_in (4 : Int32) 7) ∧
          ∀ h9 : kM, h9 = kErr h 87 (4 : Int32) →
          Q (-1000000000 - (4 : Int32)) h9
        ))
      ) ∧ ((kb (0 ≤ a2 ∧ a2 < (64 : Int32))) = 0 →
        (vp_in (1 : Int32) 7) ∧
        ∀ h11 : kM, h11 = kErr h 87 (1 : Int32) →
        Q (-1000000000 - (1 : Int32)) h11
      ))
    ))) : Wp G d m_X7_ship (kEo G d m_X7_ship Q) 0 [.ref 0, .int a1, .int a2] [] h := by
  refine wp_iload_n 1 dX7_ship_0 rfl rfl ?_
  refine wp_bipush (64 : Int32) 3 dX7_ship_1 kbipush_64 rfl ?_
  refine wp_cS (d - 1) 2 [.int a1, .int (64 : Int32)] [] 6 dX7_ship_3 rfl (lk_X7_58 rfl) (by omega) rfl rfl (Nat.le_of_ble_eq_true rfl) (sp_X7_within (by omega)  ?_)
  refine wp_if_eq 18 9 dX7_ship_6 rfl rfl ⟨fun c1 => ?_, fun c1 => ?_⟩
  · replace H := H.1 c1
    refine wp_aload_n 19 dX7_ship_18 rfl rfl ?_
    refine wp_iconst (1 : Int32) 20 dX7_ship_19 kiconst_1 rfl ?_
    have c2 := H.1; replace H := H.2
    refine wp_cV (d - 1) 1 [.int (1 : Int32)] [] 23 dX7_ship_20 rfl (lk_X7_62 rfl) (by omega) kd_0 rfl rfl rfl (Nat.le_of_ble_eq_true rfl) (sp_X7_error (by omega) c2 (fun h3 eh3 => ?_))
    replace H := H h3 eh3
    exact wp_reti dX7_ship_23 rfl H
  · replace H := H.2 c1
    refine wp_iload_n 10 dX7_ship_9 rfl rfl ?_
    refine wp_bipush (64 : Int32) 12 dX7_ship_10 kbipush_64 rfl ?_
    refine wp_cS (d - 1) 2 [.int a2, .int (64 : Int32)] [] 15 dX7_ship_12 rfl (lk_X7_58 rfl) (by omega) rfl rfl (Nat.le_of_ble_eq_true rfl) (sp_X7_within (by omega)  ?_)
    refine wp_if_ne 24 18 dX7_ship_15 rfl rfl ⟨fun c4 => ?_, fun c4 => ?_⟩
    · replace H := H.1 c4
      refine wp_aload_n 25 dX7_ship_24 rfl rfl ?_
      refine wp_getR 1 1 28 dX7_ship_25 rfl fl_X7_12 kd_0 rfl rfl rfl rfl ?_
      refine wp_getI 31 dX7_ship_28 rfl fl_X7_76 kd_1 rfl ?_
      refine wp_iconst (5 : Int32) 32 dX7_ship_31 kiconst_5 rfl ?_
      refine wp_icmp_lt 41 35 dX7_ship_32 rfl rfl ⟨fun c5 => ?_, fun c5 => ?_⟩
      · replace H := H.1 c5
        refine wp_aload_n 42 dX7_ship_41 rfl rfl ?_
        refine wp_getR 1 1 45 dX7_ship_42 rfl fl_X7_12 kd_0 rfl rfl rfl rfl ?_
        refine wp_iload_n 46 dX7_ship_45 rfl rfl ?_
        refine wp_iload_n 47 dX7_ship_46 rfl rfl ?_
        refine wp_cV (d - 1) 2 [.int a1, .int a2] [] 50 dX7_ship_47 rfl (lk_X7_80 rfl) (by omega) kd_1 rfl rfl rfl (Nat.le_of_ble_eq_true rfl) (H.mono (fun x6 h7 H => ?_))
        exact wp_reti dX7_ship_50 rfl H
      · replace H := H.2 c5
        refine wp_aload_n 36 dX7_ship_35 rfl rfl ?_
        refine wp_iconst (4 : Int32) 37 dX7_ship_36 kiconst_4 rfl ?_
        have c8 := H.1; replace H := H.2
        refine wp_cV (d - 1) 1 [.int (4 : Int32)] [] 40 dX7_ship_37 rfl (lk_X7_62 rfl) (by omega) kd_0 rfl rfl rfl (Nat.le_of_ble_eq_true rfl) (sp_X7_error (by omega) c8 (fun h9 eh9 => ?_))
        replace H := H h9 eh9
        exact wp_reti dX7_ship_40 rfl H
    · replace H := H.2 c4
      refine wp_aload_n 19 dX7_ship_18 rfl rfl ?_
      refine wp_iconst (1 : Int32) 20 dX7_ship_19 kiconst_1 rfl ?_
      have c10 := H.1; replace H := H.2
      refine wp_cV (d - 1) 1 [.int (1 : Int32)] [] 23 dX7_ship_20 rfl (lk_X7_62 rfl) (by omega) kd_0 rfl rfl rfl (Nat.le_of_ble_eq_true rfl) (sp_X7_error (by omega) c10 (fun h11 eh11 => ?_))
      replace H := H h11 eh11
      exact wp_reti dX7_ship_23 rfl H

theorem cg_X7_ship {G : kG} {d : Nat} {Q : Int32 → kM → Prop}  {a1 : Int32} {a2 : Int32} {h : kM} (hd : 3 ≤ d)  (H :
    (((kb (0 ≤ a1 ∧ a1 < (64 : Int32))) = 0 →
      (vp_in (1 : Int32) 7) ∧
      ∀ h3 : kM, h3 = kErr h 87 (1 : Int32) →
      Q (-1000000000 - (1 : Int32)) h3
    ) ∧ (¬ ((kb (0 ≤ a1 ∧ a1 < (64 : Int32))) = 0) →
      ((¬ (kb (0 ≤ a2 ∧ a2 < (64 : Int32))) = 0 →
        (((h 1 12) < (5 : Int32) →
          Cal G (d - 1) m_X2_launch [.ref 1, .int a1, .int a2] h (fun x6 h7 =>
            Q x6 h7
          )
        ) ∧ (¬ ((h 1 12) < (5 : Int32)) →
          (vp_in (4 : Int32) 7) ∧
          ∀ h9 : kM, h9 = kErr h 87 (4 : Int32) →
          Q (-1000000000 - (4 : Int32)) h9
        ))
      ) ∧ ((kb (0 ≤ a2 ∧ a2 < (64 : Int32))) = 0 →
        (vp_in (1 : Int32) 7) ∧
        ∀ h11 : kM, h11 = kErr h 87 (1 : Int32) →
        Q (-1000000000 - (1 : Int32)) h11
      ))
    ))) : Cal G d m_X7_ship [.ref 0, .int a1, .int a2] h Q :=
  Cal.of [.ref 0, .int a1, .int a2] (by decide +kernel) (Nat.le_of_ble_eq_true rfl) rfl (sg_X7_ship_0 hd  H)

def at_X8_ship_61 (G : kG) (d : Nat) (Q : Int32 → kM → Prop)  (v1 : Int32) (v2 : Int32) (v3 : Int32) (v4 : Int32) (h : kM) : Prop := Wp G d m_X8_ship (kEo G d m_X8_ship Q) 61 [.ref 88, .int v1, .int v2, .int v3, .int v4] [] h
theorem sg_X8_ship_0 {G : kG} {d : Nat} {Q : Int32 → kM → Prop}  {a1 : Int32} {a2 : Int32} {h : kM} (hd : 3 ≤ d)  (H :
    (((kb (0 ≤ a1 ∧ a1 ≤ 63)) = 0 →
      (vp_in (1 : Int32) 7) ∧
      ∀ h3 : kM, h3 = kErr h 93 (1 : Int32) →
      Q (-1000000000 - (1 : Int32)) h3
    ) ∧ (¬ ((kb (0 ≤ a1 ∧ a1 ≤ 63)) = 0) →
      ((¬ (kb (0 ≤ a2 ∧ a2 ≤ 63)) = 0 →
        ((¬ (h 89 0) = (5 : Int32) →
          (okO (h 89 0) (1 : Int32)) ∧
          ∀ h7 : kM, h7 = mLay h (h 89 0) (1 : Int32) a2 →
          (okO (h 89 0) 0 ∧ okO (h 89 0) 1 ∧ okO (h 89 0) 2) ∧
          ∀ h9 : kM, h9 = mBring h7 (h 89 0) a1 →
          at_X8_ship_61 G d Q a1 a2 (h 89 0) ((3 : Int32) * (h 89 0)) h9
        ) ∧ ((h 89 0) = (5 : Int32) →
          (vp_in (4 : Int32) 7) ∧
          ∀ h11 : kM, h11 = kErr h 93 (4 : Int32) →
          Q (-1000000000 - (4 : Int32)) h11
        ))
      ) ∧ ((kb (0 ≤ a2 ∧ a2 ≤ 63)) = 0 →
        (vp_in (1 : Int32) 7) ∧
        ∀ h13 : kM, h13 = kErr h 93 (1 : Int32) →
        Q (-1000000000 - (1 : Int32)) h13
      ))
    ))) : Wp G d m_X8_ship (kEo G d m_X8_ship Q) 0 [.ref 88, .int a1, .int a2, .null, .null] [] h := by
  refine wp_iload_n 1 dX8_ship_0 rfl rfl ?_
  refine wp_cS (d - 1) 1 [.int a1] [] 4 dX8_ship_1 rfl (lk_X8_136 rfl) (by omega) rfl rfl (Nat.le_of_ble_eq_true rfl) (sp_X8_isCell (by omega)  ?_)
  refine wp_if_eq 14 7 dX8_ship_4 rfl rfl ⟨fun c1 => ?_, fun c1 => ?_⟩
  · replace H := H.1 c1
    refine wp_aload_n 15 dX8_ship_14 rfl rfl ?_
    refine wp_iconst (1 : Int32) 16 dX8_ship_15 kiconst_1 rfl ?_
    have c2 := H.1; replace H := H.2
    refine wp_cV (d - 1) 1 [.int (1 : Int32)] [] 19 dX8_ship_16 rfl (lk_X8_62 rfl) (by omega) kd_88 rfl rfl rfl (Nat.le_of_ble_eq_true rfl) (sp_X8_error (by omega) c2 (fun h3 eh3 => ?_))
    replace H := H h3 eh3
    exact wp_reti dX8_ship_19 rfl H
  · replace H := H.2 c1
    refine wp_iload_n 8 dX8_ship_7 rfl rfl ?_
    refine wp_cS (d - 1) 1 [.int a2] [] 11 dX8_ship_8 rfl (lk_X8_136 rfl) (by omega) rfl rfl (Nat.le_of_ble_eq_true rfl) (sp_X8_isCell (by omega)  ?_)
    refine wp_if_ne 20 14 dX8_ship_11 rfl rfl ⟨fun c4 => ?_, fun c4 => ?_⟩
    · replace H := H.1 c4
      refine wp_aload_n 21 dX8_ship_20 rfl rfl ?_
      refine wp_getR 1 89 24 dX8_ship_21 rfl fl_X8_7 kd_88 rfl rfl rfl rfl ?_
      refine wp_iconst (0 : Int32) 25 dX8_ship_24 kiconst_0 rfl ?_
      refine wp_iald 26 dX8_ship_25 rfl kd_89 (by unfold vp_in; decide) ?_
      refine wp_iconst (5 : Int32) 27 dX8_ship_26 kiconst_5 rfl ?_
      refine wp_icmp_ne 36 30 dX8_ship_27 rfl rfl ⟨fun c5 => ?_, fun c5 => ?_⟩
      · replace H := H.1 c5
        refine wp_aload_n 37 dX8_ship_36 rfl rfl ?_
        refine wp_getR 1 89 40 dX8_ship_37 rfl fl_X8_7 kd_88 rfl rfl rfl rfl ?_
        refine wp_iconst (0 : Int32) 41 dX8_ship_40 kiconst_0 rfl ?_
        refine wp_iald 42 dX8_ship_41 rfl kd_89 (by unfold vp_in; decide) ?_
        refine wp_istore_n 43 dX8_ship_42 rfl (Nat.le_of_ble_eq_true rfl) rfl ?_
        refine wp_aload_n 44 dX8_ship_43 rfl rfl ?_
        refine wp_iload_n 45 dX8_ship_44 rfl rfl ?_
        refine wp_iconst (1 : Int32) 46 dX8_ship_45 kiconst_1 rfl ?_
        refine wp_iload_n 47 dX8_ship_46 rfl rfl ?_
        have c6 := H.1; replace H := H.2
        refine wp_cV (d - 1) 3 [.int (h 89 0), .int (1 : Int32), .int a2] [] 50 dX8_ship_47 rfl (lk_X8_142 rfl) (by omega) kd_88 rfl rfl rfl (Nat.le_of_ble_eq_true rfl) (sp_X8_lays1 (by omega) c6 (fun h7 eh7 => ?_))
        replace H := H h7 eh7
        refine wp_aload_n 51 dX8_ship_50 rfl rfl ?_
        refine wp_iload_n 52 dX8_ship_51 rfl rfl ?_
        refine wp_iload_n 53 dX8_ship_52 rfl rfl ?_
        have c8 := H.1; replace H := H.2
        refine wp_cV (d - 1) 2 [.int (h 89 0), .int a1] [] 56 dX8_ship_53 rfl (lk_X8_149 rfl) (by omega) kd_88 rfl rfl rfl (Nat.le_of_ble_eq_true rfl) (sp_X8_brings (by omega) c8 (fun h9 eh9 => ?_))
        replace H := H h9 eh9
        refine wp_iconst (3 : Int32) 57 dX8_ship_56 kiconst_3 rfl ?_
        refine wp_iload_n 58 dX8_ship_57 rfl rfl ?_
        refine wp_imul 59 dX8_ship_58 rfl ?_
        refine wp_istore 61 dX8_ship_59 rfl (Nat.le_of_ble_eq_true rfl) rfl ?_
        exact H
      · replace H := H.2 c5
        refine wp_aload_n 31 dX8_ship_30 rfl rfl ?_
        refine wp_iconst (4 : Int32) 32 dX8_ship_31 kiconst_4 rfl ?_
        have c10 := H.1; replace H := H.2
        refine wp_cV (d - 1) 1 [.int (4 : Int32)] [] 35 dX8_ship_32 rfl (lk_X8_62 rfl) (by omega) kd_88 rfl rfl rfl (Nat.le_of_ble_eq_true rfl) (sp_X8_error (by omega) c10 (fun h11 eh11 => ?_))
        replace H := H h11 eh11
        exact wp_reti dX8_ship_35 rfl H
    · replace H := H.2 c4
      refine wp_aload_n 15 dX8_ship_14 rfl rfl ?_
      refine wp_iconst (1 : Int32) 16 dX8_ship_15 kiconst_1 rfl ?_
      have c12 := H.1; replace H := H.2
      refine wp_cV (d - 1) 1 [.int (1 : Int32)] [] 19 dX8_ship_16 rfl (lk_X8_62 rfl) (by omega) kd_88 rfl rfl rfl (Nat.le_of_ble_eq_true rfl) (sp_X8_error (by omega) c12 (fun h13 eh13 => ?_))
      replace H := H h13 eh13
      exact wp_reti dX8_ship_19 rfl H

theorem cg_X8_ship {G : kG} {d : Nat} {Q : Int32 → kM → Prop}  {a1 : Int32} {a2 : Int32} {h : kM} (hd : 3 ≤ d)  (H :
    (((kb (0 ≤ a1 ∧ a1 ≤ 63)) = 0 →
      (vp_in (1 : Int32) 7) ∧
      ∀ h3 : kM, h3 = kErr h 93 (1 : Int32) →
      Q (-1000000000 - (1 : Int32)) h3
    ) ∧ (¬ ((kb (0 ≤ a1 ∧ a1 ≤ 63)) = 0) →
      ((¬ (kb (0 ≤ a2 ∧ a2 ≤ 63)) = 0 →
        ((¬ (h 89 0) = (5 : Int32) →
          (okO (h 89 0) (1 : Int32)) ∧
          ∀ h7 : kM, h7 = mLay h (h 89 0) (1 : Int32) a2 →
          (okO (h 89 0) 0 ∧ okO (h 89 0) 1 ∧ okO (h 89 0) 2) ∧
          ∀ h9 : kM, h9 = mBring h7 (h 89 0) a1 →
          at_X8_ship_61 G d Q a1 a2 (h 89 0) ((3 : Int32) * (h 89 0)) h9
        ) ∧ ((h 89 0) = (5 : Int32) →
          (vp_in (4 : Int32) 7) ∧
          ∀ h11 : kM, h11 = kErr h 93 (4 : Int32) →
          Q (-1000000000 - (4 : Int32)) h11
        ))
      ) ∧ ((kb (0 ≤ a2 ∧ a2 ≤ 63)) = 0 →
        (vp_in (1 : Int32) 7) ∧
        ∀ h13 : kM, h13 = kErr h 93 (1 : Int32) →
        Q (-1000000000 - (1 : Int32)) h13
      ))
    ))) : Cal G d m_X8_ship [.ref 88, .int a1, .int a2] h Q :=
  Cal.of [.ref 88, .int a1, .int a2, .null, .null] (by decide +kernel) (Nat.le_of_ble_eq_true rfl) rfl (sg_X8_ship_0 hd  H)

theorem sg_X8_ship_61 {G : kG} {d : Nat} {Q : Int32 → kM → Prop}  {v1 : Int32} {v2 : Int32} {v3 : Int32} {v4 : Int32} {h : kM} (hd : 3 ≤ d)  (H :
    (((((3 : Int32) * v3) + (3 : Int32)) ≤ v4 →
      ∀ h2 : kM, h2 = kU h 89 0 ((h 89 0) + (1 : Int32)) →
      Q v3 h2
    ) ∧ (¬ ((((3 : Int32) * v3) + (3 : Int32)) ≤ v4) →
      (okI v4 0 ∧ okI v4 1 ∧ okI v4 2 ∧ okI v4 3) ∧
      ∀ h4 : kM, h4 = mTie h v4 (0 : Int32) (0 : Int32) →
      at_X8_ship_61 G d Q v1 v2 v3 (v4 + (1 : Int32)) h4
    ))) : at_X8_ship_61 G d Q v1 v2 v3 v4 h := by
  show Wp G d m_X8_ship (kEo G d m_X8_ship Q) 61 [.ref 88, .int v1, .int v2, .int v3, .int v4] [] h
  refine wp_iload 63 dX8_ship_61 rfl rfl ?_
  refine wp_iconst (3 : Int32) 64 dX8_ship_63 kiconst_3 rfl ?_
  refine wp_iload_n 65 dX8_ship_64 rfl rfl ?_
  refine wp_imul 66 dX8_ship_65 rfl ?_
  refine wp_iconst (3 : Int32) 67 dX8_ship_66 kiconst_3 rfl ?_
  refine wp_iadd 68 dX8_ship_67 rfl ?_
  refine wp_icmp_ge 85 71 dX8_ship_68 rfl rfl ⟨fun c1 => ?_, fun c1 => ?_⟩
  · replace H := H.1 c1
    refine wp_aload_n 86 dX8_ship_85 rfl rfl ?_
    refine wp_getR 1 89 89 dX8_ship_86 rfl fl_X8_7 kd_88 rfl rfl rfl rfl ?_
    refine wp_iconst (0 : Int32) 90 dX8_ship_89 kiconst_0 rfl ?_
    refine wp_dup2 91 dX8_ship_90 rfl rfl rfl ?_
    refine wp_iald 92 dX8_ship_91 rfl kd_89 (by unfold vp_in; decide) ?_
    refine wp_iconst (1 : Int32) 93 dX8_ship_92 kiconst_1 rfl ?_
    refine wp_iadd 94 dX8_ship_93 rfl ?_
    refine wp_iast 95 dX8_ship_94 rfl kd_89 (by unfold vp_in; decide) ?_
    refine wp_nm (fun h2 eh2 => ?_)
    replace H := H h2 eh2
    refine wp_iload_n 96 dX8_ship_95 rfl rfl ?_
    exact wp_reti dX8_ship_96 rfl H
  · replace H := H.2 c1
    refine wp_aload_n 72 dX8_ship_71 rfl rfl ?_
    refine wp_iload 74 dX8_ship_72 rfl rfl ?_
    refine wp_iconst (0 : Int32) 75 dX8_ship_74 kiconst_0 rfl ?_
    refine wp_iconst (0 : Int32) 76 dX8_ship_75 kiconst_0 rfl ?_
    have c3 := H.1; replace H := H.2
    refine wp_cV (d - 1) 3 [.int v4, .int (0 : Int32), .int (0 : Int32)] [] 79 dX8_ship_76 rfl (lk_X8_152 rfl) (by omega) kd_88 rfl rfl rfl (Nat.le_of_ble_eq_true rfl) (sp_X8_ties (by omega) c3 (fun h4 eh4 => ?_))
    replace H := H h4 eh4
    refine wp_iinc (1 : Int32) 82 dX8_ship_79 rfl rfl kiconst_1 (Nat.le_of_ble_eq_true rfl) rfl ?_
    refine wp_goto 61 dX8_ship_82 rfl ?_
    exact H

theorem z10 : (0 : Int32) / 10 = 0 := by decide
theorem zr10 : iR 0 10 = 0 := by decide
theorem sp_X2_launch (hd : 2 ≤ d) {b : Nat} (hb : kSea b) {n c q : Nat} (hn : n < 5) (hns : h b 12 = nI n) (kk : ∀ h1, (∀ a, a ≠ b → a ≠ b + 3 → a ≠ b + 4 → a ≠ b + 5 → a ≠ b + 6 → a ≠ b + 7 → a ≠ b + 8 → h1 a = h a) → h1 b = upd (h b) 12 (nI (n + 1)) → h1 (b + 3) = upd (h (b + 3)) n (kLaid (nI c) (nI q)) → h1 (b + 4) = upd (h (b + 4)) n (nI q) → h1 (b + 5) = kT3 (h (b + 5)) n 3 0 → h1 (b + 6) = kT3 (h (b + 6)) n 3 0 → h1 (b + 7) = kT3 (h (b + 7)) n 3 0 → h1 (b + 8) = kT3 (h (b + 8)) n 3 (-1) → Q (nI n) h1) : Cal G d m_X2_launch [.ref b, .int (nI c), .int (nI q)] h Q := by
  refine cg_X2_launch hd hb ?_
  rw [hns, nI_clamp (by omega)]
  refine ⟨vp_in_nI hn (by decide), fun h2 e2 => ⟨vp_in_nI hn (by decide), fun h4 e4 => ?_⟩⟩
  have o4 : ∀ a, a ≠ b + 3 → a ≠ b + 4 → h4 a = h a := fun a x y => by rw [e4, kU_ne y, e2, kU_ne x]
  have c3 : h4 (b + 3) = upd (h (b + 3)) n (kLaid (nI c) (nI q)) := by rw [e4, kU_ne (by omega), e2, kU_eq]
  have c4 : h4 (b + 4) = upd (h (b + 4)) n (nI q) := by rw [e4, kU_eq, e2, kU_ne (by omega)]
  have lp : ∀ (m i : Nat) (h5 : kM), i + m = 3 → (∀ a, a ≠ b + 5 → a ≠ b + 6 → a ≠ b + 7 → a ≠ b + 8 → h5 a = h4 a) → h5 (b + 5) = kT3 (h (b + 5)) n i 0 → h5 (b + 6) = kT3 (h (b + 6)) n i 0 → h5 (b + 7) = kT3 (h (b + 7)) n i 0 → h5 (b + 8) = kT3 (h (b + 8)) n i (-1) → at_X2_launch_26 G d Q b (nI c) (nI q) (nI n) (nI i) h5 := by
    intro m
    induction m with
    | zero =>
      intro i h5 hi ho f5 f6 f7 f8
      have hi2 : i = 3 := by omega
      subst hi2
      refine sg_X2_launch_26 hd hb ⟨fun _ h6 e6 => ?_, fun z => absurd (nI_le (Nat.le_refl 3) (by decide)) z⟩
      have hb5 : h5 b = h b := by rw [ho b (by omega) (by omega) (by omega) (by omega), o4 b (by omega) (by omega)]
      rw [hb5, hns, nI_1] at e6
      refine kk h6 (fun a x0 x3 x4 x5 x6 x7 x8 => by rw [e6, kU_ne x0, ho a x5 x6 x7 x8, o4 a x3 x4]) (by rw [e6, kU_eq, hb5]) ?_ ?_ ?_ ?_ ?_ ?_
      · rw [e6, kU_ne (by omega), ho _ (by omega) (by omega) (by omega) (by omega), c3]
      · rw [e6, kU_ne (by omega), ho _ (by omega) (by omega) (by omega) (by omega), c4]
      · rw [e6, kU_ne (by omega), f5]
      · rw [e6, kU_ne (by omega), f6]
      · rw [e6, kU_ne (by omega), f7]
      · rw [e6, kU_ne (by omega), f8]
    | succ m ih =>
      intro i h5 hi ho f5 f6 f7 f8
      refine sg_X2_launch_26 hd hb ⟨fun z => absurd z (ltn (nI_lt (b := 3) (by omega) (by decide))), fun _ => ⟨by rw [ix3]; exact vp_in_nI (by omega) (by decide), fun h6 e6 => ?_⟩⟩
      rw [ix3, kTie_n (by omega), z10, zr10] at e6
      rw [nI_1]
      refine ih (i + 1) h6 (by omega) (fun a x5 x6 x7 x8 => by rw [e6, kU_ne x8, kU_ne x7, kU_ne x6, kU_ne x5, ho a x5 x6 x7 x8]) ?_ ?_ ?_ ?_
      · rw [e6, kU_ne (by omega), kU_ne (by omega), kU_ne (by omega), kU_eq, f5, kT3_s]
      · rw [e6, kU_ne (by omega), kU_ne (by omega), kU_eq, kU_ne (by omega), f6, kT3_s]
      · rw [e6, kU_ne (by omega), kU_eq, kU_ne (by omega), kU_ne (by omega), f7, kT3_s]
      · rw [e6, kU_eq, kU_ne (by omega), kU_ne (by omega), kU_ne (by omega), f8, kT3_s]
  exact lp 3 0 h4 (by omega) (fun _ _ _ _ _ => rfl) (by rw [kT3_0, o4 _ (by omega) (by omega)]) (by rw [kT3_0, o4 _ (by omega) (by omega)]) (by rw [kT3_0, o4 _ (by omega) (by omega)]) (by rw [kT3_0, o4 _ (by omega) (by omega)])
/-- the model's row, knots of a new ship tied -/
def kM3 (g : Nat → Int32) (p i : Nat) : Nat → Int32 := fun j => if 87 + 12 * p ≤ j ∧ j < 87 + 12 * p + 4 * i then (if (j - 87) % 4 = 3 then -1 else 0) else g j
theorem kM3_s {g : Nat → Int32} {p i : Nat} : upd (upd (upd (upd (kM3 g p i) (87 + 4 * (3 * p + i)) 0) (88 + 4 * (3 * p + i)) 0) (89 + 4 * (3 * p + i)) 0) (90 + 4 * (3 * p + i)) (-1) = kM3 g p (i + 1) := by
  funext j
  show _ = (if 87 + 12 * p ≤ j ∧ j < 87 + 12 * p + 4 * (i + 1) then (if (j - 87) % 4 = 3 then -1 else 0) else g j)
  by_cases e3 : j = 90 + 4 * (3 * p + i)
  · rw [e3, pk_us, if_pos (by omega), if_pos (by omega)]
  rw [pk_un e3]
  by_cases e2 : j = 89 + 4 * (3 * p + i)
  · rw [e2, pk_us, if_pos (by omega), if_neg (by omega)]
  rw [pk_un e2]
  by_cases e1 : j = 88 + 4 * (3 * p + i)
  · rw [e1, pk_us, if_pos (by omega), if_neg (by omega)]
  rw [pk_un e1]
  by_cases e0 : j = 87 + 4 * (3 * p + i)
  · rw [e0, pk_us, if_pos (by omega), if_neg (by omega)]
  rw [pk_un e0]
  show (if 87 + 12 * p ≤ j ∧ j < 87 + 12 * p + 4 * i then (if (j - 87) % 4 = 3 then -1 else 0) else g j) = _
  by_cases c : 87 + 12 * p ≤ j ∧ j < 87 + 12 * p + 4 * i
  · rw [if_pos c, if_pos (c := 87 + 12 * p ≤ j ∧ j < 87 + 12 * p + 4 * (i + 1)) (by omega)]
  · rw [if_neg c, if_neg (by omega)]
theorem kM3_0 {g : Nat → Int32} {p : Nat} : kM3 g p 0 = g := by
  funext j
  show (if 87 + 12 * p ≤ j ∧ j < 87 + 12 * p + 4 * 0 then (if (j - 87) % 4 = 3 then -1 else 0) else g j) = g j
  rw [if_neg (by omega)]
theorem lp_mship (hd : 3 ≤ d) {a1 a2 : Int32} {n : Nat} (hn : n < 5) (kk : ∀ h1, (∀ a, a ≠ 89 → h1 a = h a) → h1 89 = upd (kM3 (h 89) n 3) 0 (kM3 (h 89) n 3 0 + 1) → Q (nI n) h1) : ∀ (m i : Nat) (h1 : kM), i + m = 3 → (∀ a, a ≠ 89 → h1 a = h a) → h1 89 = kM3 (h 89) n i → at_X8_ship_61 G d Q a1 a2 (nI n) (nI (3 * n + i)) h1 := by
  have e33 : (3 : Int32) * nI n + 3 = nI (3 * n + 3) := by rw [show (3 : Int32) * nI n = nI (3 * n) from pk_mul 3 n]; exact nI_add (3 * n) 3
  intro m
  induction m with
  | zero =>
    intro i h1 hi ho hg
    have hi2 : i = 3 := by omega
    subst hi2
    refine sg_X8_ship_61 hd ⟨fun _ h2 e2 => kk h2 (fun a ha => by rw [e2, kU_ne ha, ho a ha]) (by rw [e2, kU_eq, hg]), fun z => absurd (by rw [e33]; exact nI_le (Nat.le_refl _) (by omega)) z⟩
  | succ m ih =>
    intro i h1 hi ho hg
    have o : ∀ w, w < 4 → okI (nI (3 * n + i)) (nI w) := fun w hw => okI_n (by omega) hw
    refine sg_X8_ship_61 hd ⟨fun z => absurd z (by rw [e33]; exact ltn (nI_lt (by omega) (by omega))), fun _ => ⟨⟨o 0 (by decide), o 1 (by decide), o 2 (by decide), o 3 (by decide)⟩, fun h2 e2 => ?_⟩⟩
    rw [mTie_n (by omega), z10, zr10] at e2
    rw [nI_1]
    refine ih (i + 1) h2 (by omega) (fun a ha => by rw [e2, kU_ne ha, kU_ne ha, kU_ne ha, kU_ne ha, ho a ha]) ?_
    rw [e2, kU_eq, kU_eq, kU_eq, kU_eq, hg, kM3_s]
theorem st_ship (hd : 3 ≤ d) (hR : kRel h) (a1 a2 : Int32) : kStp G d m_X7_ship m_X8_ship [.int a1, .int a2] h := by
  obtain ⟨n, H, f, w, hS, hH⟩ := hR.n
  obtain ⟨hn, n1, n2⟩ := hS.1
  have n1 : h 1 12 = nI n := n1
  by_cases hc : 0 ≤ a1 ∧ a1 < 64
  · by_cases hv : 0 ≤ a2 ∧ a2 < 64
    · obtain ⟨c, hc64, rfl⟩ := iI (n := 64) (by decide) hc.1 hc.2
      obtain ⟨q, hq64, rfl⟩ := iI (n := 64) (by decide) hv.1 hv.2
      by_cases hf : n = 5
      · subst hf
        refine cg_X7_ship hd ⟨fun z => absurd hc (kb_0.mp z), fun _ => ⟨fun _ => ⟨fun z => absurd (by rw [n1] at z; exact z) (by decide), fun _ => ⟨kin7 (n := 4) (by decide), fun h1 e1 => ?_⟩⟩, fun z => absurd hv (kb_0.mp z)⟩⟩
        have x0 : h1 89 0 = 5 := by rw [e1, kErr_ne (by decide)]; exact n2
        exact cg_X8_ship hd ⟨fun z => absurd (i63.mpr hc) (kb_0.mp z), fun _ => ⟨fun _ => ⟨fun z => absurd x0 z, fun _ => ⟨kin7 (n := 4) (by decide), kErrs hR h1 e1⟩⟩, fun z => absurd (i63.mpr hv) (kb_0.mp z)⟩⟩
      · have hn5 : n < 5 := by omega
        refine cg_X7_ship hd ⟨fun z => absurd hc (kb_0.mp z), fun _ => ⟨fun _ => ⟨fun _ => ?_, fun z => absurd (by rw [n1]; exact nI_lt (b := 5) hn5 (by decide)) z⟩, fun z => absurd hv (kb_0.mp z)⟩⟩
        refine sp_X2_launch (d := d - 1) (by omega) kSea_is1 hn5 n1 (fun h1 o1 c0 c3 c4 c5 c6 c7 c8 => ?_)
        rw [kLaid_n hc64 hq64] at c3
        have g1 : h1 89 = h 89 := o1 89 (by decide) (by decide) (by decide) (by decide) (by decide) (by decide) (by decide)
        refine cg_X8_ship hd ⟨fun z => absurd (i63.mpr hc) (kb_0.mp z), fun _ => ⟨fun _ => ⟨fun _ => ?_, fun z => absurd ((nI_eq (a := n) (b := 5) (by omega) (by decide)).mp (by rw [← n2, ← g1]; exact z)) hf⟩, fun z => absurd (i63.mpr hv) (kb_0.mp z)⟩⟩
        rw [show h1 89 0 = nI n by rw [g1]; exact n2]
        have o0 : okO (nI n) 0 := okO_n (w := 0) hn5 (by decide)
        have o1' : okO (nI n) 1 := okO_n (w := 1) hn5 (by decide)
        have o2 : okO (nI n) 2 := okO_n (w := 2) hn5 (by decide)
        refine ⟨o1', fun h2 e2 => ⟨⟨o0, o1', o2⟩, fun h3 e3 => ?_⟩⟩
        rw [mLay_1 hn5] at e2
        unfold mBring at e3
        rw [mLay_0 hn5, mLay_2 hn5, mOf_1 hn5, kU_eq, pk_un (by omega), e2, kU_eq, pk_us] at e3
        have g3 : h3 89 = upd (upd (upd (h 89) (73 + 3 * n) (nI q)) (72 + 3 * n) (nI c)) (74 + 3 * n) (if nI c = nI q then 2 else 0) := by rw [e3, kU_eq, kU_eq, kU_eq, g1]
        have p3 : ∀ a, a ≠ 89 → h3 a = h1 a := fun a ha => by rw [e3, kU_ne ha, kU_ne ha, kU_ne ha]
        rw [show (3 : Int32) * nI n = nI (3 * n + 0) from pk_mul 3 n]
        refine lp_mship (h := h3) hd hn5 (fun h4 p4 g4 => ⟨rfl, ?_⟩) 3 0 h3 (by omega) (fun _ _ => rfl) kM3_0.symm
        have gg : ∀ j, j ≠ 0 → j < 87 → h4 89 j = upd (upd (upd (h 89) (73 + 3 * n) (nI q)) (72 + 3 * n) (nI c)) (74 + 3 * n) (if nI c = nI q then 2 else 0) j := fun j h0 h87 => by
          rw [g4, pk_un h0]
          show (if 87 + 12 * n ≤ j ∧ j < 87 + 12 * n + 4 * 3 then _ else h3 89 j) = _
          rw [if_neg (by omega), g3]
        have go : ∀ j, j ≠ 0 → ¬ (72 + 3 * n ≤ j ∧ j < 75 + 3 * n) → ¬ (87 + 12 * n ≤ j ∧ j < 99 + 12 * n) → h4 89 j = h 89 j := fun j h0 ha hb => by
          rw [g4, pk_un h0]
          show (if 87 + 12 * n ≤ j ∧ j < 87 + 12 * n + 4 * 3 then _ else h3 89 j) = _
          rw [if_neg (by omega), g3, pk_un (by omega), pk_un (by omega), pk_un (by omega)]
        have g0 : h4 89 0 = nI (n + 1) := by
          rw [g4, pk_us]
          show (if 87 + 12 * n ≤ 0 ∧ 0 < 87 + 12 * n + 4 * 3 then _ else h3 89 0) + 1 = _
          rw [if_neg (by omega), g3, pk_un (by omega), pk_un (by omega), pk_un (by omega), n2, nI_1]
        have oo : ∀ a, a ≠ 89 → a ≠ 1 → a ≠ 4 → a ≠ 5 → a ≠ 6 → a ≠ 7 → a ≠ 8 → a ≠ 9 → h4 a = h a := fun a x x1 x4 x5 x6 x7 x8 x9 => by rw [p4 a x, p3 a x, o1 a x1 x4 x5 x6 x7 x8 x9]
        have d0 : h4 1 = upd (h 1) 12 (nI (n + 1)) := by rw [p4 1 (by decide), p3 1 (by decide), c0]
        have d4 : h4 4 = upd (h 4) n (nI (64 * (if c = q then 2 else 0) + c)) := by rw [p4 4 (by decide), p3 4 (by decide)]; exact c3
        have d5 : h4 5 = upd (h 5) n (nI q) := by rw [p4 5 (by decide), p3 5 (by decide)]; exact c4
        have d6 : h4 6 = kT3 (h 6) n 3 0 := by rw [p4 6 (by decide), p3 6 (by decide)]; exact c5
        have d7 : h4 7 = kT3 (h 7) n 3 0 := by rw [p4 7 (by decide), p3 7 (by decide)]; exact c6
        have d8 : h4 8 = kT3 (h 8) n 3 0 := by rw [p4 8 (by decide), p3 8 (by decide)]; exact c7
        have d9 : h4 9 = kT3 (h 9) n 3 (-1) := by rw [p4 9 (by decide), p3 9 (by decide)]; exact c8
        refine hR.now (fun a z1 z2 => oo a z1 (by omega) (by omega) (by omega) (by omega) (by omega) (by omega) (by omega)) ⟨n + 1, H, f, w, hS.re_ship (fun a y0 y1 y2 y3 y4 y5 y6 y7 y8 => oo (1 + a) (by omega) (by omega) (by omega) (by omega) (by omega) (by omega) (by omega) (by omega)) (fun s _ hs => ?_) (fun j j0 j1 j2 => go j (by omega) (by omega) (by omega)) ⟨by omega, ?_, g0⟩ (fun r hr => ?_) (fun k hk => ?_), hH⟩
        · show h4 1 s = h 1 s
          rw [d0, pk_un hs]
        · show h4 1 12 = _
          rw [d0, pk_us]
        · by_cases e : r = n
          · subst e
            refine ⟨c, if c = q then 2 else 0, q, hc64, by split <;> decide, hq64, ?_, ?_, ?_, ?_, ?_⟩
            · show h4 4 r = _
              rw [d4, pk_us]
            · rw [gg _ (by omega) (by omega), pk_un (by omega), pk_us]
            · rw [gg _ (by omega) (by omega), pk_us]
              by_cases e : c = q
              · rw [if_pos e, if_pos (by rw [e])]
                rfl
              · rw [if_neg e, if_neg (fun z => e ((nI_eq (by omega) (by omega)).mp z))]
                rfl
            · show h4 5 r = _
              rw [d5, pk_us]
            · rw [gg _ (by omega) (by omega), pk_un (by omega), pk_un (by omega), pk_us]
          · obtain ⟨c1, s1, q1, y1, y2, y3, y4, y5, y6, y7, y8⟩ := hS.2.2.2.2.2.2.2.1 r (by omega)
            refine ⟨c1, s1, q1, y1, y2, y3, ?_, ?_, ?_, ?_, ?_⟩
            · show h4 4 r = _
              rw [d4, pk_un e]
              exact y4
            · rw [go _ (by omega) (by omega) (by omega)]
              exact y5
            · rw [go _ (by omega) (by omega) (by omega)]
              exact y6
            · show h4 5 r = _
              rw [d5, pk_un e]
              exact y7
            · rw [go _ (by omega) (by omega) (by omega)]
              exact y8
        · by_cases e : k < 3 * n
          · obtain ⟨t, m, wy, ht, hm, hwy, y1, y2, y3, y4, y5, y6, y7⟩ := hS.2.2.2.2.2.2.2.2.1 k e
            refine ⟨t, m, wy, ht, hm, hwy, ?_, ?_, ?_, ?_, ?_, ?_, ?_⟩
            · show h4 6 k = _
              rw [d6, kT3_lo e]
              exact y1
            · rw [go _ (by omega) (by omega) (by omega)]
              exact y2
            · show h4 7 k = _
              rw [d7, kT3_lo e]
              exact y3
            · rw [go _ (by omega) (by omega) (by omega)]
              exact y4
            · show h4 8 k = _
              rw [d8, kT3_lo e]
              exact y5
            · rw [go _ (by omega) (by omega) (by omega)]
              exact y6
            · show h4 9 k = _
              rw [d9, kT3_lo e, go _ (by omega) (by omega) (by omega)]
              exact y7
          · have gk : ∀ j, 87 + 12 * n ≤ j → j < 99 + 12 * n → h4 89 j = (if (j - 87) % 4 = 3 then -1 else 0) := fun j ha hb => by
              rw [g4, pk_un (by omega)]
              show (if 87 + 12 * n ≤ j ∧ j < 87 + 12 * n + 4 * 3 then _ else h3 89 j) = _
              rw [if_pos (by omega)]
            refine ⟨0, 0, 0, by decide, by decide, by decide, ?_, ?_, ?_, ?_, ?_, ?_, ?_⟩
            · show h4 6 k = _
              rw [d6, kT3_in (by omega) (by omega)]
              rfl
            · rw [gk _ (by omega) (by omega), if_neg (by omega)]
              rfl
            · show h4 7 k = _
              rw [d7, kT3_in (by omega) (by omega)]
              rfl
            · rw [gk _ (by omega) (by omega), if_neg (by omega)]
              rfl
            · show h4 8 k = _
              rw [d8, kT3_in (by omega) (by omega)]
              rfl
            · rw [gk _ (by omega) (by omega), if_neg (by omega)]
              rfl
            · show h4 9 k = _
              rw [d9, kT3_in (by omega) (by omega), gk _ (by omega) (by omega), if_pos (by omega)]
    · refine cg_X7_ship hd ⟨fun z => absurd hc (kb_0.mp z), fun _ => ⟨fun z => absurd (kb_n0.mp z) hv, fun _ => ⟨kin7 (n := 1) (by decide), fun h1 e1 => ?_⟩⟩⟩
      exact cg_X8_ship hd ⟨fun z => absurd (i63.mpr hc) (kb_0.mp z), fun _ => ⟨fun z => absurd (i63.mp (kb_n0.mp z)) hv, fun _ => ⟨kin7 (n := 1) (by decide), kErrs hR h1 e1⟩⟩⟩
  · refine cg_X7_ship hd ⟨fun _ => ⟨kin7 (n := 1) (by decide), fun h1 e1 => ?_⟩, fun z => absurd (kb_n0.mp z) hc⟩
    exact cg_X8_ship hd ⟨fun _ => ⟨kin7 (n := 1) (by decide), kErrs hR h1 e1⟩, fun z => absurd (i63.mp (kb_n0.mp z)) hc⟩
end Tape

