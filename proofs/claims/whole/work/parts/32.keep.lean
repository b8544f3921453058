/-! feed, untell; image, restore -/
section Keep
variable {G : kG} {d : Nat} {Q : Int32 → kM → Prop} {h : kM}
theorem byt255 : ∀ i, i < 64 → ¬ i < 8 → (255#64).getLsbD i = false := by decide +kernel
theorem byt1 (x : BitVec 64) (k : Nat) (hk : k ≤ 56) : (x >>> k) &&& 255#64 = (x.sshiftRight k) &&& 255#64 := by
  apply BitVec.eq_of_getLsbD_eq
  intro i hi
  rw [BitVec.getLsbD_and, BitVec.getLsbD_and]
  by_cases h8 : i < 8
  · rw [BitVec.getLsbD_ushiftRight, BitVec.getLsbD_sshiftRight, if_pos (by omega), decide_eq_false (by omega)]
    rfl
  · rw [byt255 i hi h8, Bool.and_false, Bool.and_false]
theorem byt (w : Int64) : ∀ i, i < 8 → ((w.toUInt64 >>> (((8 : Int32) * nI i).toInt64.toUInt64 &&& Int64.toUInt64 63)).toInt64) &&& (255 : Int64) = (w >>> (((8 : Int32) * nI i).toInt64 &&& 63)) &&& (255 : Int64) := by
  intro i hi
  apply Int64.toBitVec_inj.mp
  rw [Int64.toBitVec_and, Int64.toBitVec_and]
  rcases (show i = 0 ∨ i = 1 ∨ i = 2 ∨ i = 3 ∨ i = 4 ∨ i = 5 ∨ i = 6 ∨ i = 7 by omega) with rfl | rfl | rfl | rfl | rfl | rfl | rfl | rfl
  · exact byt1 w.toBitVec 0 (by decide)
  · exact byt1 w.toBitVec 8 (by decide)
  · exact byt1 w.toBitVec 16 (by decide)
  · exact byt1 w.toBitVec 24 (by decide)
  · exact byt1 w.toBitVec 32 (by decide)
  · exact byt1 w.toBitVec 40 (by decide)
  · exact byt1 w.toBitVec 48 (by decide)
  · exact byt1 w.toBitVec 56 (by decide)
theorem and255 (z : Int64) : z &&& 255 = lN (z.toBitVec.toNat % 256) := by
  apply Int64.toBitVec_inj.mp
  apply BitVec.eq_of_toNat_eq
  have e : (lN (z.toBitVec.toNat % 256)).toBitVec.toNat = z.toBitVec.toNat % 256 := Nat.mod_eq_of_lt (by omega)
  rw [e, Int64.toBitVec_and, BitVec.toNat_and]
  exact Nat.and_two_pow_sub_one_eq_mod _ 8
/-- the i-th byte of a word, the lowest first -/
def kBt (w : Int64) (i : Nat) : Int32 := ((w >>> (((8 : Int32) * nI i).toInt64 &&& 63)) &&& (255 : Int64)).toInt32
theorem kBt_in (w : Int64) (i : Nat) : 0 ≤ kBt w i ∧ kBt w i ≤ 255 := by
  unfold kBt
  rw [and255, lN_i]
  generalize (w >>> (((8 : Int32) * nI i).toInt64 &&& 63)).toBitVec.toNat = m
  exact ⟨nI_pos' (by omega), nI_le (b := 255) (by omega) (by decide)⟩
def kFd (t : Nat → Int32) (f : Nat) (w : Int64) (i : Nat) : Nat → Int32 := fun k => if f ≤ k ∧ k < f + i then kBt w (k - f) else t k
theorem kFd_s {t : Nat → Int32} {f i : Nat} {w : Int64} : ∀ k, upd (kFd t f w i) (f + i) (kBt w i) k = kFd t f w (i + 1) k := by
  intro k
  show _ = (if f ≤ k ∧ k < f + (i + 1) then kBt w (k - f) else t k)
  by_cases e : k = f + i
  · rw [e, pk_us, if_pos (by omega), show f + i - f = i by omega]
  · rw [pk_un e]
    show (if f ≤ k ∧ k < f + i then kBt w (k - f) else t k) = _
    by_cases c : f ≤ k ∧ k < f + i
    · rw [if_pos c, if_pos (by omega)]
    · rw [if_neg c, if_neg (by omega)]
theorem kFd_0 {t : Nat → Int32} {f : Nat} {w : Int64} : ∀ k, kFd t f w 0 k = t k := by
  intro k
  show (if f ≤ k ∧ k < f + 0 then kBt w (k - f) else t k) = t k
  rw [if_neg (by omega)]
def at_X7_feed_39 (G : kG) (d : Nat) (Q : Int32 → kM → Prop)  (v1 : Int64) (v3 : Int32) (v4 : Int32) (h : kM) : Prop := Wp G d m_X7_feed (kEo G d m_X7_feed Q) 39 [.ref 0, .long v1, .null, .int v3, .int v4] [] h
theorem sg_X7_feed_0 {G : kG} {d : Nat} {Q : Int32 → kM → Prop}  {a1 : Int64} {a2 : Int32} {h : kM} (hd : 3 ≤ d)  (H :
    ((¬ (kb ((1 : Int32) ≤ a2 ∧ a2 ≤ (8 : Int32))) = 0 →
      ((((h 1 14) + a2) ≤ (60 : Int32) →
        at_X7_feed_39 G d Q a1 a2 (0 : Int32) h
      ) ∧ (¬ (((h 1 14) + a2) ≤ (60 : Int32)) →
        (vp_in (4 : Int32) 7) ∧
        ∀ h4 : kM, h4 = kErr h 87 (4 : Int32) →
        Q (-1000000000 - (4 : Int32)) h4
      ))
    ) ∧ ((kb ((1 : Int32) ≤ a2 ∧ a2 ≤ (8 : Int32))) = 0 →
      (vp_in (1 : Int32) 7) ∧
      ∀ h6 : kM, h6 = kErr h 87 (1 : Int32) →
      Q (-1000000000 - (1 : Int32)) h6
    ))) : Wp G d m_X7_feed (kEo G d m_X7_feed Q) 0 [.ref 0, .long a1, .null, .int a2, .null] [] h := by
  refine wp_iload_n 1 dX7_feed_0 rfl rfl ?_
  refine wp_iconst (1 : Int32) 2 dX7_feed_1 kiconst_1 rfl ?_
  refine wp_bipush (8 : Int32) 4 dX7_feed_2 kbipush_8 rfl ?_
  refine wp_cS (d - 1) 3 [.int a2, .int (1 : Int32), .int (8 : Int32)] [] 7 dX7_feed_4 rfl (lk_X7_69 rfl) (by omega) rfl rfl (Nat.le_of_ble_eq_true rfl) (sp_X7_between (by omega)  ?_)
  refine wp_if_ne 16 10 dX7_feed_7 rfl rfl ⟨fun c1 => ?_, fun c1 => ?_⟩
  · replace H := H.1 c1
    refine wp_aload_n 17 dX7_feed_16 rfl rfl ?_
    refine wp_getR 1 1 20 dX7_feed_17 rfl fl_X7_12 kd_0 rfl rfl rfl rfl ?_
    refine wp_getI 23 dX7_feed_20 rfl fl_X7_141 kd_1 rfl ?_
    refine wp_iload_n 24 dX7_feed_23 rfl rfl ?_
    refine wp_iadd 25 dX7_feed_24 rfl ?_
    refine wp_bipush (60 : Int32) 27 dX7_feed_25 kbipush_60 rfl ?_
    refine wp_icmp_le 36 30 dX7_feed_27 rfl rfl ⟨fun c2 => ?_, fun c2 => ?_⟩
    · replace H := H.1 c2
      refine wp_iconst (0 : Int32) 37 dX7_feed_36 kiconst_0 rfl ?_
      refine wp_istore 39 dX7_feed_37 rfl (Nat.le_of_ble_eq_true rfl) rfl ?_
      exact H
    · replace H := H.2 c2
      refine wp_aload_n 31 dX7_feed_30 rfl rfl ?_
      refine wp_iconst (4 : Int32) 32 dX7_feed_31 kiconst_4 rfl ?_
      have c3 := H.1; replace H := H.2
      refine wp_cV (d - 1) 1 [.int (4 : Int32)] [] 35 dX7_feed_32 rfl (lk_X7_62 rfl) (by omega) kd_0 rfl rfl rfl (Nat.le_of_ble_eq_true rfl) (sp_X7_error (by omega) c3 (fun h4 eh4 => ?_))
      replace H := H h4 eh4
      exact wp_reti dX7_feed_35 rfl H
  · replace H := H.2 c1
    refine wp_aload_n 11 dX7_feed_10 rfl rfl ?_
    refine wp_iconst (1 : Int32) 12 dX7_feed_11 kiconst_1 rfl ?_
    have c5 := H.1; replace H := H.2
    refine wp_cV (d - 1) 1 [.int (1 : Int32)] [] 15 dX7_feed_12 rfl (lk_X7_62 rfl) (by omega) kd_0 rfl rfl rfl (Nat.le_of_ble_eq_true rfl) (sp_X7_error (by omega) c5 (fun h6 eh6 => ?_))
    replace H := H h6 eh6
    exact wp_reti dX7_feed_15 rfl H

theorem cg_X7_feed {G : kG} {d : Nat} {Q : Int32 → kM → Prop}  {a1 : Int64} {a2 : Int32} {h : kM} (hd : 3 ≤ d)  (H :
    ((¬ (kb ((1 : Int32) ≤ a2 ∧ a2 ≤ (8 : Int32))) = 0 →
      ((((h 1 14) + a2) ≤ (60 : Int32) →
        at_X7_feed_39 G d Q a1 a2 (0 : Int32) h
      ) ∧ (¬ (((h 1 14) + a2) ≤ (60 : Int32)) →
        (vp_in (4 : Int32) 7) ∧
        ∀ h4 : kM, h4 = kErr h 87 (4 : Int32) →
        Q (-1000000000 - (4 : Int32)) h4
      ))
    ) ∧ ((kb ((1 : Int32) ≤ a2 ∧ a2 ≤ (8 : Int32))) = 0 →
      (vp_in (1 : Int32) 7) ∧
      ∀ h6 : kM, h6 = kErr h 87 (1 : Int32) →
      Q (-1000000000 - (1 : Int32)) h6
    ))) : Cal G d m_X7_feed [.ref 0, .long a1, .int a2] h Q :=
  Cal.of [.ref 0, .long a1, .null, .int a2, .null] (by decide +kernel) (Nat.le_of_ble_eq_true rfl) rfl (sg_X7_feed_0 hd  H)

theorem sg_X7_feed_39 {G : kG} {d : Nat} {Q : Int32 → kM → Prop}  {v1 : Int64} {v3 : Int32} {v4 : Int32} {h : kM} (hd : 3 ≤ d)  (H :
    ((v3 ≤ v4 →
      Q (h 1 14) h
    ) ∧ (¬ (v3 ≤ v4) →
      (vp_in (h 1 14) 60) ∧
      ∀ h3 : kM, h3 = kU h 10 ((h 1 14)).toNatClampNeg (((((v1).toUInt64 >>> ((((8 : Int32) * v4)).toInt64.toUInt64 &&& Int64.toUInt64 63)).toInt64) &&& (255 : Int64))).toInt32 →
      ∀ h4 : kM, h4 = kU h3 1 14 ((h3 1 14) + (1 : Int32)) →
      at_X7_feed_39 G d Q v1 v3 (v4 + (1 : Int32)) h4
    ))) : at_X7_feed_39 G d Q v1 v3 v4 h := by
  show Wp G d m_X7_feed (kEo G d m_X7_feed Q) 39 [.ref 0, .long v1, .null, .int v3, .int v4] [] h
  refine wp_iload 41 dX7_feed_39 rfl rfl ?_
  refine wp_iload_n 42 dX7_feed_41 rfl rfl ?_
  refine wp_icmp_ge 91 45 dX7_feed_42 rfl rfl ⟨fun c1 => ?_, fun c1 => ?_⟩
  · replace H := H.1 c1
    refine wp_aload_n 92 dX7_feed_91 rfl rfl ?_
    refine wp_getR 1 1 95 dX7_feed_92 rfl fl_X7_12 kd_0 rfl rfl rfl rfl ?_
    refine wp_getI 98 dX7_feed_95 rfl fl_X7_141 kd_1 rfl ?_
    exact wp_reti dX7_feed_98 rfl H
  · replace H := H.2 c1
    refine wp_aload_n 46 dX7_feed_45 rfl rfl ?_
    refine wp_getR 1 1 49 dX7_feed_46 rfl fl_X7_12 kd_0 rfl rfl rfl rfl ?_
    refine wp_getR 9 10 52 dX7_feed_49 rfl fl_X7_144 kd_1 rfl rfl rfl rfl ?_
    refine wp_aload_n 53 dX7_feed_52 rfl rfl ?_
    refine wp_getR 1 1 56 dX7_feed_53 rfl fl_X7_12 kd_0 rfl rfl rfl rfl ?_
    refine wp_getI 59 dX7_feed_56 rfl fl_X7_141 kd_1 rfl ?_
    refine wp_lload_n 60 dX7_feed_59 rfl rfl ?_
    refine wp_bipush (8 : Int32) 62 dX7_feed_60 kbipush_8 rfl ?_
    refine wp_iload 64 dX7_feed_62 rfl rfl ?_
    refine wp_imul 65 dX7_feed_64 rfl ?_
    refine wp_lushr 66 dX7_feed_65 rfl ?_
    refine wp_ldc2 (255 : Int64) 69 dX7_feed_66 lc_X7_147 rfl ?_
    refine wp_land 70 dX7_feed_69 rfl ?_
    refine wp_l2i 71 dX7_feed_70 rfl ?_
    have c2 := H.1; replace H := H.2
    refine wp_iast 72 dX7_feed_71 rfl kd_10 c2 ?_
    refine wp_nm (fun h3 eh3 => ?_)
    replace H := H h3 eh3
    refine wp_aload_n 73 dX7_feed_72 rfl rfl ?_
    refine wp_getR 1 1 76 dX7_feed_73 rfl fl_X7_12 kd_0 rfl rfl rfl rfl ?_
    refine wp_dup 77 dX7_feed_76 rfl rfl ?_
    refine wp_getI 80 dX7_feed_77 rfl fl_X7_141 kd_1 rfl ?_
    refine wp_iconst (1 : Int32) 81 dX7_feed_80 kiconst_1 rfl ?_
    refine wp_iadd 82 dX7_feed_81 rfl ?_
    refine wp_putI 85 dX7_feed_82 rfl fl_X7_141 fin_2_14 kd_1 rfl ?_
    refine wp_nm (fun h4 eh4 => ?_)
    replace H := H h4 eh4
    refine wp_iinc (1 : Int32) 88 dX7_feed_85 rfl rfl kiconst_1 (Nat.le_of_ble_eq_true rfl) rfl ?_
    refine wp_goto 39 dX7_feed_88 rfl ?_
    exact H

def at_X8_feed_38 (G : kG) (d : Nat) (Q : Int32 → kM → Prop)  (v1 : Int64) (v3 : Int32) (v4 : Int32) (h : kM) : Prop := Wp G d m_X8_feed (kEo G d m_X8_feed Q) 38 [.ref 88, .long v1, .null, .int v3, .int v4] [] h
theorem sg_X8_feed_0 {G : kG} {d : Nat} {Q : Int32 → kM → Prop}  {a1 : Int64} {a2 : Int32} {h : kM} (hd : 3 ≤ d)  (H :
    ((¬ (kb ((1 : Int32) ≤ a2 ∧ a2 ≤ (8 : Int32))) = 0 →
      ((((h 89 4) + a2) ≤ (60 : Int32) →
        at_X8_feed_38 G d Q a1 a2 (0 : Int32) h
      ) ∧ (¬ (((h 89 4) + a2) ≤ (60 : Int32)) →
        (vp_in (4 : Int32) 7) ∧
        ∀ h4 : kM, h4 = kErr h 93 (4 : Int32) →
        Q (-1000000000 - (4 : Int32)) h4
      ))
    ) ∧ ((kb ((1 : Int32) ≤ a2 ∧ a2 ≤ (8 : Int32))) = 0 →
      (vp_in (1 : Int32) 7) ∧
      ∀ h6 : kM, h6 = kErr h 93 (1 : Int32) →
      Q (-1000000000 - (1 : Int32)) h6
    ))) : Wp G d m_X8_feed (kEo G d m_X8_feed Q) 0 [.ref 88, .long a1, .null, .int a2, .null] [] h := by
  refine wp_iload_n 1 dX8_feed_0 rfl rfl ?_
  refine wp_iconst (1 : Int32) 2 dX8_feed_1 kiconst_1 rfl ?_
  refine wp_bipush (8 : Int32) 4 dX8_feed_2 kbipush_8 rfl ?_
  refine wp_cS (d - 1) 3 [.int a2, .int (1 : Int32), .int (8 : Int32)] [] 7 dX8_feed_4 rfl (lk_X8_50 rfl) (by omega) rfl rfl (Nat.le_of_ble_eq_true rfl) (sp_X8_in (by omega)  ?_)
  refine wp_if_ne 16 10 dX8_feed_7 rfl rfl ⟨fun c1 => ?_, fun c1 => ?_⟩
  · replace H := H.1 c1
    refine wp_aload_n 17 dX8_feed_16 rfl rfl ?_
    refine wp_getR 1 89 20 dX8_feed_17 rfl fl_X8_7 kd_88 rfl rfl rfl rfl ?_
    refine wp_iconst (4 : Int32) 21 dX8_feed_20 kiconst_4 rfl ?_
    refine wp_iald 22 dX8_feed_21 rfl kd_89 (by unfold vp_in; decide) ?_
    refine wp_iload_n 23 dX8_feed_22 rfl rfl ?_
    refine wp_iadd 24 dX8_feed_23 rfl ?_
    refine wp_bipush (60 : Int32) 26 dX8_feed_24 kbipush_60 rfl ?_
    refine wp_icmp_le 35 29 dX8_feed_26 rfl rfl ⟨fun c2 => ?_, fun c2 => ?_⟩
    · replace H := H.1 c2
      refine wp_iconst (0 : Int32) 36 dX8_feed_35 kiconst_0 rfl ?_
      refine wp_istore 38 dX8_feed_36 rfl (Nat.le_of_ble_eq_true rfl) rfl ?_
      exact H
    · replace H := H.2 c2
      refine wp_aload_n 30 dX8_feed_29 rfl rfl ?_
      refine wp_iconst (4 : Int32) 31 dX8_feed_30 kiconst_4 rfl ?_
      have c3 := H.1; replace H := H.2
      refine wp_cV (d - 1) 1 [.int (4 : Int32)] [] 34 dX8_feed_31 rfl (lk_X8_62 rfl) (by omega) kd_88 rfl rfl rfl (Nat.le_of_ble_eq_true rfl) (sp_X8_error (by omega) c3 (fun h4 eh4 => ?_))
      replace H := H h4 eh4
      exact wp_reti dX8_feed_34 rfl H
  · replace H := H.2 c1
    refine wp_aload_n 11 dX8_feed_10 rfl rfl ?_
    refine wp_iconst (1 : Int32) 12 dX8_feed_11 kiconst_1 rfl ?_
    have c5 := H.1; replace H := H.2
    refine wp_cV (d - 1) 1 [.int (1 : Int32)] [] 15 dX8_feed_12 rfl (lk_X8_62 rfl) (by omega) kd_88 rfl rfl rfl (Nat.le_of_ble_eq_true rfl) (sp_X8_error (by omega) c5 (fun h6 eh6 => ?_))
    replace H := H h6 eh6
    exact wp_reti dX8_feed_15 rfl H

theorem cg_X8_feed {G : kG} {d : Nat} {Q : Int32 → kM → Prop}  {a1 : Int64} {a2 : Int32} {h : kM} (hd : 3 ≤ d)  (H :
    ((¬ (kb ((1 : Int32) ≤ a2 ∧ a2 ≤ (8 : Int32))) = 0 →
      ((((h 89 4) + a2) ≤ (60 : Int32) →
        at_X8_feed_38 G d Q a1 a2 (0 : Int32) h
      ) ∧ (¬ (((h 89 4) + a2) ≤ (60 : Int32)) →
        (vp_in (4 : Int32) 7) ∧
        ∀ h4 : kM, h4 = kErr h 93 (4 : Int32) →
        Q (-1000000000 - (4 : Int32)) h4
      ))
    ) ∧ ((kb ((1 : Int32) ≤ a2 ∧ a2 ≤ (8 : Int32))) = 0 →
      (vp_in (1 : Int32) 7) ∧
      ∀ h6 : kM, h6 = kErr h 93 (1 : Int32) →
      Q (-1000000000 - (1 : Int32)) h6
    ))) : Cal G d m_X8_feed [.ref 88, .long a1, .int a2] h Q :=
  Cal.of [.ref 88, .long a1, .null, .int a2, .null] (by decide +kernel) (Nat.le_of_ble_eq_true rfl) rfl (sg_X8_feed_0 hd  H)

theorem sg_X8_feed_38 {G : kG} {d : Nat} {Q : Int32 → kM → Prop}  {v1 : Int64} {v3 : Int32} {v4 : Int32} {h : kM} (hd : 3 ≤ d)  (H :
    ((v3 ≤ v4 →
      Q (h 89 4) h
    ) ∧ (¬ (v3 ≤ v4) →
      (vp_in ((397 : Int32) + (h 89 4)) 481) ∧
      ∀ h3 : kM, h3 = kU h 89 (((397 : Int32) + (h 89 4))).toNatClampNeg (((v1 >>> ((((8 : Int32) * v4)).toInt64 &&& 63)) &&& (255 : Int64))).toInt32 →
      ∀ h4 : kM, h4 = kU h3 89 4 ((h3 89 4) + (1 : Int32)) →
      at_X8_feed_38 G d Q v1 v3 (v4 + (1 : Int32)) h4
    ))) : at_X8_feed_38 G d Q v1 v3 v4 h := by
  show Wp G d m_X8_feed (kEo G d m_X8_feed Q) 38 [.ref 88, .long v1, .null, .int v3, .int v4] [] h
  refine wp_iload 40 dX8_feed_38 rfl rfl ?_
  refine wp_iload_n 41 dX8_feed_40 rfl rfl ?_
  refine wp_icmp_ge 87 44 dX8_feed_41 rfl rfl ⟨fun c1 => ?_, fun c1 => ?_⟩
  · replace H := H.1 c1
    refine wp_aload_n 88 dX8_feed_87 rfl rfl ?_
    refine wp_getR 1 89 91 dX8_feed_88 rfl fl_X8_7 kd_88 rfl rfl rfl rfl ?_
    refine wp_iconst (4 : Int32) 92 dX8_feed_91 kiconst_4 rfl ?_
    refine wp_iald 93 dX8_feed_92 rfl kd_89 (by unfold vp_in; decide) ?_
    exact wp_reti dX8_feed_93 rfl H
  · replace H := H.2 c1
    refine wp_aload_n 45 dX8_feed_44 rfl rfl ?_
    refine wp_getR 1 89 48 dX8_feed_45 rfl fl_X8_7 kd_88 rfl rfl rfl rfl ?_
    refine wp_sipush (397 : Int32) 51 dX8_feed_48 ksipush_397 rfl ?_
    refine wp_aload_n 52 dX8_feed_51 rfl rfl ?_
    refine wp_getR 1 89 55 dX8_feed_52 rfl fl_X8_7 kd_88 rfl rfl rfl rfl ?_
    refine wp_iconst (4 : Int32) 56 dX8_feed_55 kiconst_4 rfl ?_
    refine wp_iald 57 dX8_feed_56 rfl kd_89 (by unfold vp_in; decide) ?_
    refine wp_iadd 58 dX8_feed_57 rfl ?_
    refine wp_lload_n 59 dX8_feed_58 rfl rfl ?_
    refine wp_bipush (8 : Int32) 61 dX8_feed_59 kbipush_8 rfl ?_
    refine wp_iload 63 dX8_feed_61 rfl rfl ?_
    refine wp_imul 64 dX8_feed_63 rfl ?_
    refine wp_lshr 65 dX8_feed_64 rfl ?_
    refine wp_ldc2 (255 : Int64) 68 dX8_feed_65 lc_X8_66 rfl ?_
    refine wp_land 69 dX8_feed_68 rfl ?_
    refine wp_l2i 70 dX8_feed_69 rfl ?_
    have c2 := H.1; replace H := H.2
    refine wp_iast 71 dX8_feed_70 rfl kd_89 c2 ?_
    refine wp_nm (fun h3 eh3 => ?_)
    replace H := H h3 eh3
    refine wp_aload_n 72 dX8_feed_71 rfl rfl ?_
    refine wp_getR 1 89 75 dX8_feed_72 rfl fl_X8_7 kd_88 rfl rfl rfl rfl ?_
    refine wp_iconst (4 : Int32) 76 dX8_feed_75 kiconst_4 rfl ?_
    refine wp_dup2 77 dX8_feed_76 rfl rfl rfl ?_
    refine wp_iald 78 dX8_feed_77 rfl kd_89 (by unfold vp_in; decide) ?_
    refine wp_iconst (1 : Int32) 79 dX8_feed_78 kiconst_1 rfl ?_
    refine wp_iadd 80 dX8_feed_79 rfl ?_
    refine wp_iast 81 dX8_feed_80 rfl kd_89 (by unfold vp_in; decide) ?_
    refine wp_nm (fun h4 eh4 => ?_)
    replace H := H h4 eh4
    refine wp_iinc (1 : Int32) 84 dX8_feed_81 rfl rfl kiconst_1 (Nat.le_of_ble_eq_true rfl) rfl ?_
    refine wp_goto 38 dX8_feed_84 rfl ?_
    exact H

theorem lp_feed (hd : 3 ≤ d) {w : Int64} {f N : Nat} (hN : N ≤ 8) (hf : f + N ≤ 60) (kk : ∀ h1, (∀ a, a ≠ 1 → a ≠ 10 → h1 a = h a) → h1 1 14 = nI (f + N) → (∀ s, s ≠ 14 → h1 1 s = h 1 s) → (∀ k, h1 10 k = kFd (h 10) f w N k) → Q (nI (f + N)) h1) : ∀ (m i : Nat) (h1 : kM), i + m = N → (∀ a, a ≠ 1 → a ≠ 10 → h1 a = h a) → h1 1 14 = nI (f + i) → (∀ s, s ≠ 14 → h1 1 s = h 1 s) → (∀ k, h1 10 k = kFd (h 10) f w i k) → at_X7_feed_39 G d Q w (nI N) (nI i) h1 := by
  intro m
  induction m with
  | zero =>
    intro i h1 hi ho e14 e1 e10
    have hi2 : i = N := by omega
    subst hi2
    refine sg_X7_feed_39 hd ⟨fun _ => ?_, fun z => absurd (nI_le (Nat.le_refl _) (by omega)) z⟩
    rw [e14]
    exact kk h1 ho e14 e1 e10
  | succ m ih =>
    intro i h1 hi ho e14 e1 e10
    refine sg_X7_feed_39 hd ⟨fun z => absurd z (ltn (nI_lt (by omega) (by omega))), fun _ => ⟨by rw [e14]; exact vp_in_nI (by omega) (by decide), fun h3 e3 h4 e4 => ?_⟩⟩
    rw [e14, nI_clamp (by omega), byt w i (by omega)] at e3
    have e3 : h3 = kU h1 10 (f + i) (kBt w i) := e3
    have e34 : h3 1 14 = nI (f + i) := by rw [e3, kU_ne (by decide)]; exact e14
    rw [e34, nI_1] at e4
    rw [nI_1]
    refine ih (i + 1) h4 (by omega) (fun a x y => by rw [e4, kU_ne x, e3, kU_ne y, ho a x y]) (by rw [e4, kU_eq, pk_us]; rfl) (fun s hs => by rw [e4, kU_eq, pk_un hs, e3, kU_ne (by decide)]; exact e1 s hs) (fun k => ?_)
    rw [e4, kU_ne (by decide), e3, kU_eq, ← kFd_s]
    by_cases e : k = f + i
    · rw [e, pk_us, pk_us]
    · rw [pk_un e, pk_un e]
      exact e10 k
theorem lp_mfeed (hd : 3 ≤ d) {w : Int64} {f N : Nat} (hN : N ≤ 8) (hf : f + N ≤ 60) (kk : ∀ h1, (∀ a, a ≠ 89 → h1 a = h a) → h1 89 4 = nI (f + N) → (∀ j, j ≠ 4 → j < 397 → h1 89 j = h 89 j) → (∀ k, h1 89 (397 + k) = kFd (fun k => h 89 (397 + k)) f w N k) → Q (nI (f + N)) h1) : ∀ (m i : Nat) (h1 : kM), i + m = N → (∀ a, a ≠ 89 → h1 a = h a) → h1 89 4 = nI (f + i) → (∀ j, j ≠ 4 → j < 397 → h1 89 j = h 89 j) → (∀ k, h1 89 (397 + k) = kFd (fun k => h 89 (397 + k)) f w i k) → at_X8_feed_38 G d Q w (nI N) (nI i) h1 := by
  intro m
  induction m with
  | zero =>
    intro i h1 hi ho e4 e1 e10
    have hi2 : i = N := by omega
    subst hi2
    refine sg_X8_feed_38 hd ⟨fun _ => ?_, fun z => absurd (nI_le (Nat.le_refl _) (by omega)) z⟩
    rw [e4]
    exact kk h1 ho e4 e1 e10
  | succ m ih =>
    intro i h1 hi ho e14 e1 e10
    have ix : (397 : Int32) + nI (f + i) = nI (397 + (f + i)) := nI_add 397 (f + i)
    refine sg_X8_feed_38 hd ⟨fun z => absurd z (ltn (nI_lt (by omega) (by omega))), fun _ => ⟨by rw [e14, ix]; exact vp_in_nI (by omega) (by decide), fun h3 e3 h4 e4 => ?_⟩⟩
    rw [e14, ix, nI_clamp (by omega)] at e3
    have e3 : h3 = kU h1 89 (397 + (f + i)) (kBt w i) := e3
    have e34 : h3 89 4 = nI (f + i) := by rw [e3, kU_eq, pk_un (by omega)]; exact e14
    rw [e34, nI_1] at e4
    rw [nI_1]
    refine ih (i + 1) h4 (by omega) (fun a x => by rw [e4, kU_ne x, e3, kU_ne x, ho a x]) (by rw [e4, kU_eq, pk_us]; rfl) (fun j j4 j3 => by rw [e4, kU_eq, pk_un j4, e3, kU_eq, pk_un (by omega)]; exact e1 j j4 j3) (fun k => ?_)
    rw [e4, kU_eq, pk_un (by omega), e3, kU_eq, ← kFd_s]
    by_cases e : k = f + i
    · rw [e, pk_us, pk_us]
    · rw [pk_un e, pk_un (by omega)]
      exact e10 k
theorem i8b {x : Int32} (hc : 1 ≤ x ∧ x ≤ 8) : ∃ N, N ≤ 8 ∧ x = nI N := by
  obtain ⟨N, -, hN, e⟩ := iB 1 8 (by decide) hc.1 hc.2 (by decide)
  exact ⟨N, hN, e⟩
theorem st_feed (hd : 3 ≤ d) (hR : kRel h) (a1 : Int64) (a2 : Int32) : kStp G d m_X7_feed m_X8_feed [.long a1, .int a2] h := by
  obtain ⟨n, H, f, w, hS, hH⟩ := hR.n
  obtain ⟨hf, f1, f2⟩ := hS.2.2.1
  have f1 : h 1 14 = nI f := f1
  have s12 := hS.2.2.2.2.2.2.2.2.2.2.2.1
  by_cases hc : 1 ≤ a2 ∧ a2 ≤ 8
  · obtain ⟨N, hN, rfl⟩ := i8b hc
    by_cases hv : f + N ≤ 60
    · have hv2 : nI f + nI N ≤ 60 := by rw [nI_add]; exact nI_le (b := 60) hv (by decide)
      refine cg_X7_feed hd ⟨fun _ => ⟨fun _ => ?_, fun z => absurd (by rw [f1]; exact hv2) z⟩, fun z => absurd hc (kb_0.mp z)⟩
      refine lp_feed hd hN hv (fun h1 o1 c14 cs ct => ?_) N 0 h (by omega) (fun _ _ _ => rfl) f1 (fun _ _ => rfl) (fun k => (kFd_0 k).symm)
      have o89 : h1 89 = h 89 := o1 89 (by decide) (by decide)
      refine cg_X8_feed hd ⟨fun _ => ⟨fun _ => ?_, fun z => absurd (by rw [o89, f2]; exact hv2) z⟩, fun z => absurd hc (kb_0.mp z)⟩
      refine lp_mfeed (h := h1) hd hN hv (fun h2 o2 e4 ej ek => ⟨rfl, ?_⟩) N 0 h1 (by omega) (fun _ _ => rfl) (by rw [o89]; exact f2) (fun _ _ _ => rfl) (fun k => (kFd_0 (t := fun k => h1 89 (397 + k)) k).symm)
      rw [o89] at ej ek
      refine hR.now (fun a z1 z2 => by rw [o2 a z1, o1 a (by omega) (by omega)]) ⟨n, H, f + N, w, hS.re_ta (fun a y0 y1 y2 y3 => ?_) (fun s _ hs => ?_) (fun j j1 j2 => ?_) ⟨hv, ?_, e4⟩ (fun i hi => ?_), hH⟩
      · show h2 (1 + a) = h (1 + a)
        rw [o2 _ (by omega), o1 _ (by omega) (by omega)]
      · show h2 1 s = h 1 s
        rw [o2 1 (by decide)]
        exact cs s hs
      · by_cases j3 : j < 397
        · exact ej j (by omega) j3
        · obtain ⟨k, rfl⟩ : ∃ k, j = 397 + k := ⟨j - 397, by omega⟩
          rw [ek k]
          show (if f ≤ k ∧ k < f + N then kBt a1 (k - f) else h 89 (397 + k)) = _
          rw [if_neg (by omega)]
      · show h2 1 14 = _
        rw [o2 1 (by decide)]
        exact c14
      · show h2 10 i = _ ∧ 0 ≤ h2 10 i ∧ h2 10 i ≤ 255
        rw [o2 10 (by decide), ct i, ek i]
        show (if f ≤ i ∧ i < f + N then kBt a1 (i - f) else h 10 i) = (if f ≤ i ∧ i < f + N then kBt a1 (i - f) else h 89 (397 + i)) ∧ 0 ≤ (if f ≤ i ∧ i < f + N then kBt a1 (i - f) else h 10 i) ∧ (if f ≤ i ∧ i < f + N then kBt a1 (i - f) else h 10 i) ≤ 255
        by_cases e : f ≤ i ∧ i < f + N
        · rw [if_pos e, if_pos e]
          exact ⟨rfl, kBt_in a1 _⟩
        · rw [if_neg e, if_neg e]
          exact s12 i (by omega)
    · have hv2 : ¬ nI f + nI N ≤ 60 := by rw [nI_add]; exact ltn (nI_lt (a := 60) (by omega) (by omega))
      refine cg_X7_feed hd ⟨fun _ => ⟨fun z => absurd (by rw [f1] at z; exact z) hv2, fun _ => ⟨kin7 (n := 4) (by decide), fun h1 e1 => ?_⟩⟩, fun z => absurd hc (kb_0.mp z)⟩
      have x0 : h1 89 4 = nI f := by rw [e1, kErr_ne (by decide)]; exact f2
      exact cg_X8_feed hd ⟨fun _ => ⟨fun z => absurd (by rw [x0] at z; exact z) hv2, fun _ => ⟨kin7 (n := 4) (by decide), kErrs hR h1 e1⟩⟩, fun z => absurd hc (kb_0.mp z)⟩
  · refine cg_X7_feed hd ⟨fun z => absurd (kb_n0.mp z) hc, fun _ => ⟨kin7 (n := 1) (by decide), fun h1 e1 => ?_⟩⟩
    exact cg_X8_feed hd ⟨fun z => absurd (kb_n0.mp z) hc, fun _ => ⟨kin7 (n := 1) (by decide), kErrs hR h1 e1⟩⟩
theorem sg_X7_untell_0 {G : kG} {d : Nat} {Q : Int32 → kM → Prop}  {a1 : Int32} {h : kM} (hd : 3 ≤ d)  (H :
    ((¬ (kb (0 ≤ a1 ∧ a1 < (2 : Int32))) = 0 →
      (
      (a1 = 0 →
        (((kb (0 < h 12 2)) = 0 →
          ∀ h4 : kM, h4 = kU h 12 2 0 →
          Q (0 : Int32) h4
        ) ∧ (¬ ((kb (0 < h 12 2)) = 0) →
          ∀ h5 : kM, h5 = kU h 12 2 0 →
          Q (1 : Int32) h5
        ))
      ) ∧
      (¬ a1 = 0 →
        (((kb (0 < h 15 2)) = 0 →
          ∀ h7 : kM, h7 = kU h 15 2 0 →
          Q (0 : Int32) h7
        ) ∧ (¬ ((kb (0 < h 15 2)) = 0) →
          ∀ h8 : kM, h8 = kU h 15 2 0 →
          Q (1 : Int32) h8
        ))
      )
      )
    ) ∧ ((kb (0 ≤ a1 ∧ a1 < (2 : Int32))) = 0 →
      (vp_in (1 : Int32) 7) ∧
      ∀ h10 : kM, h10 = kErr h 87 (1 : Int32) →
      Q (-1000000000 - (1 : Int32)) h10
    ))) : Wp G d m_X7_untell (kEo G d m_X7_untell Q) 0 [.ref 0, .int a1, .null, .null] [] h := by
  refine wp_iload_n 1 dX7_untell_0 rfl rfl ?_
  refine wp_iconst (2 : Int32) 2 dX7_untell_1 kiconst_2 rfl ?_
  refine wp_cS (d - 1) 2 [.int a1, .int (2 : Int32)] [] 5 dX7_untell_2 rfl (lk_X7_58 rfl) (by omega) rfl rfl (Nat.le_of_ble_eq_true rfl) (sp_X7_within (by omega)  ?_)
  refine wp_if_ne 14 8 dX7_untell_5 rfl rfl ⟨fun c1 => ?_, fun c1 => ?_⟩
  · replace H := H.1 c1
    refine wp_aload_n 15 dX7_untell_14 rfl rfl ?_
    refine wp_getR 1 1 18 dX7_untell_15 rfl fl_X7_12 kd_0 rfl rfl rfl rfl ?_
    refine wp_iload_n 19 dX7_untell_18 rfl rfl ?_
    refine wp_cV (d - 1) 1 [.int a1] [] 22 dX7_untell_19 rfl (lk_X7_153 rfl) (by omega) kd_1 rfl rfl rfl (Nat.le_of_ble_eq_true rfl) (sp_X2_textOf (by omega) ⟨fun c2 => ?_, fun c2 => ?_⟩)
    · replace H := H.1 c2
      refine wp_astore_n 23 dX7_untell_22 rfl (Nat.le_of_ble_eq_true rfl) rfl ?_
      refine wp_aload_n 24 dX7_untell_23 rfl rfl ?_
      refine wp_cV (d - 1) 0 [] [] 27 dX7_untell_24 rfl (lk_X7_167 rfl) (by omega) kd_12 rfl rfl rfl (Nat.le_of_ble_eq_true rfl) (sp_X6_isThere (by omega) kTxt_is12 ?_)
      refine wp_if_eq 34 30 dX7_untell_27 rfl rfl ⟨fun c3 => ?_, fun c3 => ?_⟩
      · replace H := H.1 c3
        refine wp_iconst (0 : Int32) 35 dX7_untell_34 kiconst_0 rfl ?_
        refine wp_istore_n 36 dX7_untell_35 rfl (Nat.le_of_ble_eq_true rfl) rfl ?_
        refine wp_aload_n 37 dX7_untell_36 rfl rfl ?_
        refine wp_cV (d - 1) 0 [] [] 40 dX7_untell_37 rfl (lk_X7_171 rfl) (by omega) kd_12 rfl rfl rfl (Nat.le_of_ble_eq_true rfl) (sp_X6_clear (by omega) kTxt_is12 (fun h4 eh4 => ?_))
        replace H := H h4 eh4
        refine wp_iload_n 41 dX7_untell_40 rfl rfl ?_
        exact wp_reti dX7_untell_41 rfl H
      · replace H := H.2 c3
        refine wp_iconst (1 : Int32) 31 dX7_untell_30 kiconst_1 rfl ?_
        refine wp_goto 35 dX7_untell_31 rfl ?_
        refine wp_istore_n 36 dX7_untell_35 rfl (Nat.le_of_ble_eq_true rfl) rfl ?_
        refine wp_aload_n 37 dX7_untell_36 rfl rfl ?_
        refine wp_cV (d - 1) 0 [] [] 40 dX7_untell_37 rfl (lk_X7_171 rfl) (by omega) kd_12 rfl rfl rfl (Nat.le_of_ble_eq_true rfl) (sp_X6_clear (by omega) kTxt_is12 (fun h5 eh5 => ?_))
        replace H := H h5 eh5
        refine wp_iload_n 41 dX7_untell_40 rfl rfl ?_
        exact wp_reti dX7_untell_41 rfl H
    · replace H := H.2 c2
      refine wp_astore_n 23 dX7_untell_22 rfl (Nat.le_of_ble_eq_true rfl) rfl ?_
      refine wp_aload_n 24 dX7_untell_23 rfl rfl ?_
      refine wp_cV (d - 1) 0 [] [] 27 dX7_untell_24 rfl (lk_X7_167 rfl) (by omega) kd_15 rfl rfl rfl (Nat.le_of_ble_eq_true rfl) (sp_X6_isThere (by omega) kTxt_is15 ?_)
      refine wp_if_eq 34 30 dX7_untell_27 rfl rfl ⟨fun c6 => ?_, fun c6 => ?_⟩
      · replace H := H.1 c6
        refine wp_iconst (0 : Int32) 35 dX7_untell_34 kiconst_0 rfl ?_
        refine wp_istore_n 36 dX7_untell_35 rfl (Nat.le_of_ble_eq_true rfl) rfl ?_
        refine wp_aload_n 37 dX7_untell_36 rfl rfl ?_
        refine wp_cV (d - 1) 0 [] [] 40 dX7_untell_37 rfl (lk_X7_171 rfl) (by omega) kd_15 rfl rfl rfl (Nat.le_of_ble_eq_true rfl) (sp_X6_clear (by omega) kTxt_is15 (fun h7 eh7 => ?_))
        replace H := H h7 eh7
        refine wp_iload_n 41 dX7_untell_40 rfl rfl ?_
        exact wp_reti dX7_untell_41 rfl H
      · replace H := H.2 c6
        refine wp_iconst (1 : Int32) 31 dX7_untell_30 kiconst_1 rfl ?_
        refine wp_goto 35 dX7_untell_31 rfl ?_
        refine wp_istore_n 36 dX7_untell_35 rfl (Nat.le_of_ble_eq_true rfl) rfl ?_
        refine wp_aload_n 37 dX7_untell_36 rfl rfl ?_
        refine wp_cV (d - 1) 0 [] [] 40 dX7_untell_37 rfl (lk_X7_171 rfl) (by omega) kd_15 rfl rfl rfl (Nat.le_of_ble_eq_true rfl) (sp_X6_clear (by omega) kTxt_is15 (fun h8 eh8 => ?_))
        replace H := H h8 eh8
        refine wp_iload_n 41 dX7_untell_40 rfl rfl ?_
        exact wp_reti dX7_untell_41 rfl H
  · replace H := H.2 c1
    refine wp_aload_n 9 dX7_untell_8 rfl rfl ?_
    refine wp_iconst (1 : Int32) 10 dX7_untell_9 kiconst_1 rfl ?_
    have c9 := H.1; replace H := H.2
    refine wp_cV (d - 1) 1 [.int (1 : Int32)] [] 13 dX7_untell_10 rfl (lk_X7_62 rfl) (by omega) kd_0 rfl rfl rfl (Nat.le_of_ble_eq_true rfl) (sp_X7_error (by omega) c9 (fun h10 eh10 => ?_))
    replace H := H h10 eh10
    exact wp_reti dX7_untell_13 rfl H

theorem cg_X7_untell {G : kG} {d : Nat} {Q : Int32 → kM → Prop}  {a1 : Int32} {h : kM} (hd : 3 ≤ d)  (H :
    ((¬ (kb (0 ≤ a1 ∧ a1 < (2 : Int32))) = 0 →
      (
      (a1 = 0 →
        (((kb (0 < h 12 2)) = 0 →
          ∀ h4 : kM, h4 = kU h 12 2 0 →
          Q (0 : Int32) h4
        ) ∧ (¬ ((kb (0 < h 12 2)) = 0) →
          ∀ h5 : kM, h5 = kU h 12 2 0 →
          Q (1 : Int32) h5
        ))
      ) ∧
      (¬ a1 = 0 →
        (((kb (0 < h 15 2)) = 0 →
          ∀ h7 : kM, h7 = kU h 15 2 0 →
          Q (0 : Int32) h7
        ) ∧ (¬ ((kb (0 < h 15 2)) = 0) →
          ∀ h8 : kM, h8 = kU h 15 2 0 →
          Q (1 : Int32) h8
        ))
      )
      )
    ) ∧ ((kb (0 ≤ a1 ∧ a1 < (2 : Int32))) = 0 →
      (vp_in (1 : Int32) 7) ∧
      ∀ h10 : kM, h10 = kErr h 87 (1 : Int32) →
      Q (-1000000000 - (1 : Int32)) h10
    ))) : Cal G d m_X7_untell [.ref 0, .int a1] h Q :=
  Cal.of [.ref 0, .int a1, .null, .null] (by decide +kernel) (Nat.le_of_ble_eq_true rfl) rfl (sg_X7_untell_0 hd  H)

theorem sg_X8_untell_0 {G : kG} {d : Nat} {Q : Int32 → kM → Prop}  {a1 : Int32} {h : kM} (hd : 3 ≤ d)  (H :
    ((¬ (kb ((0 : Int32) ≤ a1 ∧ a1 ≤ (1 : Int32))) = 0 →
      (vp_in (147 + 125 * a1) 481) ∧
      (((kb (0 < h 89 (147 + 125 * a1).toNatClampNeg)) = 0 →
        (vp_in ((147 : Int32) + ((125 : Int32) * a1)) 481) ∧
        ∀ h5 : kM, h5 = kU h 89 (((147 : Int32) + ((125 : Int32) * a1))).toNatClampNeg (0 : Int32) →
        Q (0 : Int32) h5
      ) ∧ (¬ ((kb (0 < h 89 (147 + 125 * a1).toNatClampNeg)) = 0) →
        (vp_in ((147 : Int32) + ((125 : Int32) * a1)) 481) ∧
        ∀ h7 : kM, h7 = kU h 89 (((147 : Int32) + ((125 : Int32) * a1))).toNatClampNeg (0 : Int32) →
        Q (1 : Int32) h7
      ))
    ) ∧ ((kb ((0 : Int32) ≤ a1 ∧ a1 ≤ (1 : Int32))) = 0 →
      (vp_in (1 : Int32) 7) ∧
      ∀ h9 : kM, h9 = kErr h 93 (1 : Int32) →
      Q (-1000000000 - (1 : Int32)) h9
    ))) : Wp G d m_X8_untell (kEo G d m_X8_untell Q) 0 [.ref 88, .int a1, .null] [] h := by
  refine wp_iload_n 1 dX8_untell_0 rfl rfl ?_
  refine wp_iconst (0 : Int32) 2 dX8_untell_1 kiconst_0 rfl ?_
  refine wp_iconst (1 : Int32) 3 dX8_untell_2 kiconst_1 rfl ?_
  refine wp_cS (d - 1) 3 [.int a1, .int (0 : Int32), .int (1 : Int32)] [] 6 dX8_untell_3 rfl (lk_X8_50 rfl) (by omega) rfl rfl (Nat.le_of_ble_eq_true rfl) (sp_X8_in (by omega)  ?_)
  refine wp_if_ne 15 9 dX8_untell_6 rfl rfl ⟨fun c1 => ?_, fun c1 => ?_⟩
  · replace H := H.1 c1
    refine wp_aload_n 16 dX8_untell_15 rfl rfl ?_
    refine wp_iload_n 17 dX8_untell_16 rfl rfl ?_
    have c2 := H.1; replace H := H.2
    refine wp_cV (d - 1) 1 [.int a1] [] 20 dX8_untell_17 rfl (lk_X8_114 rfl) (by omega) kd_88 rfl rfl rfl (Nat.le_of_ble_eq_true rfl) (sp_X8_hasText (by omega) c2 ?_)
    refine wp_if_eq 27 23 dX8_untell_20 rfl rfl ⟨fun c3 => ?_, fun c3 => ?_⟩
    · replace H := H.1 c3
      refine wp_iconst (0 : Int32) 28 dX8_untell_27 kiconst_0 rfl ?_
      refine wp_istore_n 29 dX8_untell_28 rfl (Nat.le_of_ble_eq_true rfl) rfl ?_
      refine wp_aload_n 30 dX8_untell_29 rfl rfl ?_
      refine wp_getR 1 89 33 dX8_untell_30 rfl fl_X8_7 kd_88 rfl rfl rfl rfl ?_
      refine wp_sipush (147 : Int32) 36 dX8_untell_33 ksipush_147 rfl ?_
      refine wp_bipush (125 : Int32) 38 dX8_untell_36 kbipush_125 rfl ?_
      refine wp_iload_n 39 dX8_untell_38 rfl rfl ?_
      refine wp_imul 40 dX8_untell_39 rfl ?_
      refine wp_iadd 41 dX8_untell_40 rfl ?_
      refine wp_iconst (0 : Int32) 42 dX8_untell_41 kiconst_0 rfl ?_
      have c4 := H.1; replace H := H.2
      refine wp_iast 43 dX8_untell_42 rfl kd_89 c4 ?_
      refine wp_nm (fun h5 eh5 => ?_)
      replace H := H h5 eh5
      refine wp_iload_n 44 dX8_untell_43 rfl rfl ?_
      exact wp_reti dX8_untell_44 rfl H
    · replace H := H.2 c3
      refine wp_iconst (1 : Int32) 24 dX8_untell_23 kiconst_1 rfl ?_
      refine wp_goto 28 dX8_untell_24 rfl ?_
      refine wp_istore_n 29 dX8_untell_28 rfl (Nat.le_of_ble_eq_true rfl) rfl ?_
      refine wp_aload_n 30 dX8_untell_29 rfl rfl ?_
      refine wp_getR 1 89 33 dX8_untell_30 rfl fl_X8_7 kd_88 rfl rfl rfl rfl ?_
      refine wp_sipush (147 : Int32) 36 dX8_untell_33 ksipush_147 rfl ?_
      refine wp_bipush (125 : Int32) 38 dX8_untell_36 kbipush_125 rfl ?_
      refine wp_iload_n 39 dX8_untell_38 rfl rfl ?_
      refine wp_imul 40 dX8_untell_39 rfl ?_
      refine wp_iadd 41 dX8_untell_40 rfl ?_
      refine wp_iconst (0 : Int32) 42 dX8_untell_41 kiconst_0 rfl ?_
      have c6 := H.1; replace H := H.2
      refine wp_iast 43 dX8_untell_42 rfl kd_89 c6 ?_
      refine wp_nm (fun h7 eh7 => ?_)
      replace H := H h7 eh7
      refine wp_iload_n 44 dX8_untell_43 rfl rfl ?_
      exact wp_reti dX8_untell_44 rfl H
  · replace H := H.2 c1
    refine wp_aload_n 10 dX8_untell_9 rfl rfl ?_
    refine wp_iconst (1 : Int32) 11 dX8_untell_10 kiconst_1 rfl ?_
    have c8 := H.1; replace H := H.2
    refine wp_cV (d - 1) 1 [.int (1 : Int32)] [] 14 dX8_untell_11 rfl (lk_X8_62 rfl) (by omega) kd_88 rfl rfl rfl (Nat.le_of_ble_eq_true rfl) (sp_X8_error (by omega) c8 (fun h9 eh9 => ?_))
    replace H := H h9 eh9
    exact wp_reti dX8_untell_14 rfl H

theorem cg_X8_untell {G : kG} {d : Nat} {Q : Int32 → kM → Prop}  {a1 : Int32} {h : kM} (hd : 3 ≤ d)  (H :
    ((¬ (kb ((0 : Int32) ≤ a1 ∧ a1 ≤ (1 : Int32))) = 0 →
      (vp_in (147 + 125 * a1) 481) ∧
      (((kb (0 < h 89 (147 + 125 * a1).toNatClampNeg)) = 0 →
        (vp_in ((147 : Int32) + ((125 : Int32) * a1)) 481) ∧
        ∀ h5 : kM, h5 = kU h 89 (((147 : Int32) + ((125 : Int32) * a1))).toNatClampNeg (0 : Int32) →
        Q (0 : Int32) h5
      ) ∧ (¬ ((kb (0 < h 89 (147 + 125 * a1).toNatClampNeg)) = 0) →
        (vp_in ((147 : Int32) + ((125 : Int32) * a1)) 481) ∧
        ∀ h7 : kM, h7 = kU h 89 (((147 : Int32) + ((125 : Int32) * a1))).toNatClampNeg (0 : Int32) →
        Q (1 : Int32) h7
      ))
    ) ∧ ((kb ((0 : Int32) ≤ a1 ∧ a1 ≤ (1 : Int32))) = 0 →
      (vp_in (1 : Int32) 7) ∧
      ∀ h9 : kM, h9 = kErr h 93 (1 : Int32) →
      Q (-1000000000 - (1 : Int32)) h9
    ))) : Cal G d m_X8_untell [.ref 88, .int a1] h Q :=
  Cal.of [.ref 88, .int a1, .null] (by decide +kernel) (Nat.le_of_ble_eq_true rfl) rfl (sg_X8_untell_0 hd  H)

theorem kTR.none {u : Int32} {c g : Nat → Int32} {b : Nat} (hg : g b = 0) : kTR u 0 c g b := ⟨0, by decide, rfl, hg, Or.inl rfl, fun i hi => absurd hi (Nat.not_lt_zero i)⟩
theorem kTR.pos {u len : Int32} {c g : Nat → Int32} {b : Nat} (h : kTR u len c g b) : g b = len := by
  obtain ⟨n, h1, h2, h3, -⟩ := h
  rw [h2, h3]
theorem st_untell (hd : 3 ≤ d) (hR : kRel h) (a1 : Int32) : kStp G d m_X7_untell m_X8_untell [.int a1] h := by
  obtain ⟨n, H, f, w, hS, hH⟩ := hR.n
  have t0 := hS.2.2.2.2.2.2.2.2.2.1
  have t1 := hS.2.2.2.2.2.2.2.2.2.2.1
  by_cases hc : 0 ≤ a1 ∧ a1 < 2
  · obtain ⟨c, hc2, rfl⟩ := iI (n := 2) (by decide) hc.1 hc.2
    rcases (show c = 0 ∨ c = 1 by omega) with rfl | rfl
    · have p0 : h 89 147 = h 12 2 := t0.pos
      have fin : ∀ (x : Int32) (h1 : kM), h1 = kU h 12 2 0 → ∀ h2, h2 = kU h1 89 147 0 → x = x ∧ kRel h2 := fun x h1 e1 h2 e2 => by
        obtain ⟨k1, k2, k3⟩ := kk2 (by decide) e1 e2
        refine ⟨rfl, hR.now (fun a z1 z2 => k3 a z1 (by omega)) ⟨n, H, f, w, hS.re_t0 (fun a y0 y1 y2 y3 y4 => k3 (1 + a) (by omega) (by omega)) (fun s _ => by show h2 1 s = h 1 s; rw [k3 1 (by decide) (by decide)]) (fun j hj => by rw [k1, pk_un (by omega)]) ?_, hH⟩⟩
        show kTR 0 (h2 12 2) (h2 13) (h2 89) 147
        rw [k2, pk_us]
        exact kTR.none (by rw [k1, pk_us])
      have e147 : ((147 : Int32) + 125 * nI 0).toNatClampNeg = 147 := by decide
      have v147 : vp_in ((147 : Int32) + 125 * nI 0) 481 := by unfold vp_in; decide
      by_cases hp : 0 < h 12 2
      · refine cg_X7_untell hd ⟨fun _ => ⟨fun _ => ⟨fun z => absurd hp (kb_0.mp z), fun _ h1 e1 => ?_⟩, fun z => absurd nI_0 z⟩, fun z => absurd hc (kb_0.mp z)⟩
        have g1 : h1 89 147 = h 12 2 := by rw [e1, kU_ne (by decide)]; exact p0
        refine cg_X8_untell hd ⟨fun _ => ⟨v147, ?_⟩, fun z => absurd (i1.mpr hc) (kb_0.mp z)⟩
        rw [e147, g1]
        exact ⟨fun z => absurd hp (kb_0.mp z), fun _ => ⟨v147, fin 1 h1 e1⟩⟩
      · refine cg_X7_untell hd ⟨fun _ => ⟨fun _ => ⟨fun _ h1 e1 => ?_, fun z => absurd (kb_n0.mp z) hp⟩, fun z => absurd nI_0 z⟩, fun z => absurd hc (kb_0.mp z)⟩
        have g1 : h1 89 147 = h 12 2 := by rw [e1, kU_ne (by decide)]; exact p0
        refine cg_X8_untell hd ⟨fun _ => ⟨v147, ?_⟩, fun z => absurd (i1.mpr hc) (kb_0.mp z)⟩
        rw [e147, g1]
        exact ⟨fun _ => ⟨v147, fin 0 h1 e1⟩, fun z => absurd (kb_n0.mp z) hp⟩
    · have p0 : h 89 272 = h 15 2 := t1.pos
      have fin : ∀ (x : Int32) (h1 : kM), h1 = kU h 15 2 0 → ∀ h2, h2 = kU h1 89 272 0 → x = x ∧ kRel h2 := fun x h1 e1 h2 e2 => by
        obtain ⟨k1, k2, k3⟩ := kk2 (by decide) e1 e2
        refine ⟨rfl, hR.now (fun a z1 z2 => k3 a z1 (by omega)) ⟨n, H, f, w, hS.re_t1 (fun a y0 y1 y2 y3 y4 => k3 (1 + a) (by omega) (by omega)) (fun s _ => by show h2 1 s = h 1 s; rw [k3 1 (by decide) (by decide)]) (fun j hj => by rw [k1, pk_un (by omega)]) ?_, hH⟩⟩
        show kTR 1 (h2 15 2) (h2 16) (h2 89) 272
        rw [k2, pk_us]
        exact kTR.none (by rw [k1, pk_us])
      have e147 : ((147 : Int32) + 125 * nI 1).toNatClampNeg = 272 := by decide
      have v147 : vp_in ((147 : Int32) + 125 * nI 1) 481 := by unfold vp_in; decide
      have n10 : ¬ nI 1 = 0 := by decide
      by_cases hp : 0 < h 15 2
      · refine cg_X7_untell hd ⟨fun _ => ⟨fun z => absurd z n10, fun _ => ⟨fun z => absurd hp (kb_0.mp z), fun _ h1 e1 => ?_⟩⟩, fun z => absurd hc (kb_0.mp z)⟩
        have g1 : h1 89 272 = h 15 2 := by rw [e1, kU_ne (by decide)]; exact p0
        refine cg_X8_untell hd ⟨fun _ => ⟨v147, ?_⟩, fun z => absurd (i1.mpr hc) (kb_0.mp z)⟩
        rw [e147, g1]
        exact ⟨fun z => absurd hp (kb_0.mp z), fun _ => ⟨v147, fin 1 h1 e1⟩⟩
      · refine cg_X7_untell hd ⟨fun _ => ⟨fun z => absurd z n10, fun _ => ⟨fun _ h1 e1 => ?_, fun z => absurd (kb_n0.mp z) hp⟩⟩, fun z => absurd hc (kb_0.mp z)⟩
        have g1 : h1 89 272 = h 15 2 := by rw [e1, kU_ne (by decide)]; exact p0
        refine cg_X8_untell hd ⟨fun _ => ⟨v147, ?_⟩, fun z => absurd (i1.mpr hc) (kb_0.mp z)⟩
        rw [e147, g1]
        exact ⟨fun _ => ⟨v147, fin 0 h1 e1⟩, fun z => absurd (kb_n0.mp z) hp⟩
  · refine cg_X7_untell hd ⟨fun z => absurd (kb_n0.mp z) hc, fun _ => ⟨kin7 (n := 1) (by decide), fun h1 e1 => ?_⟩⟩
    exact cg_X8_untell hd ⟨fun z => absurd (i1.mp (kb_n0.mp z)) hc, fun _ => ⟨kin7 (n := 1) (by decide), kErrs hR h1 e1⟩⟩
/-- a sea copied -/
theorem kHt_cong {c c' : Nat → Int32} : ∀ n, (∀ i, i < n → c' i = c i) → kHt c' n = kHt c n
  | 0, _ => rfl
  | n + 1, e => by
    show (match kHt c' n with | none => none | some k => kHt1 (c' n) k) = (match kHt c n with | none => none | some k => kHt1 (c n) k)
    rw [kHt_cong n (fun i hi => e i (by omega)), e n (by omega)]
theorem kTR.copy {u len len' : Int32} {c c' g g' : Nat → Int32} {b : Nat} (h : kTR u len c g b) (el : len' = len) (ec : ∀ i, i < 60 → c' i = c i) (eg : ∀ j, b ≤ j → j < b + 125 → g' j = g j) : kTR u len' c' g' b := by
  obtain ⟨n, h1, h2, h3, h4, h5⟩ := h
  refine ⟨n, h1, by rw [el, h2], by rw [eg b (by omega) (by omega), h3], ?_, fun i hi => ?_⟩
  · rcases h4 with h4 | h4
    · exact Or.inl h4
    · exact Or.inr (by rw [kHt_cong n (fun i hi => ec i (by omega))]; exact h4)
  · rw [eg _ (by omega) (by omega), eg _ (by omega) (by omega), ec i (by omega)]
    exact h5 i hi

/-- how a sea is after another one was copied to it -/
def kCopied (v v' : kM) : Prop := (∀ s, 12 ≤ s → s ≤ 16 → v' 0 s = v 0 s) ∧ (∀ i, i < 64 → v' 1 i = v 1 i) ∧ (∀ i, i < 2 → v' 2 i = v 2 i) ∧ (∀ i, i < 5 → v' 3 i = v 3 i) ∧ (∀ i, i < 5 → v' 4 i = v 4 i) ∧ (∀ i, i < 15 → v' 5 i = v 5 i) ∧ (∀ i, i < 15 → v' 6 i = v 6 i) ∧ (∀ i, i < 15 → v' 7 i = v 7 i) ∧ (∀ i, i < 15 → v' 8 i = v 8 i) ∧ (∀ i, i < 60 → v' 9 i = v 9 i) ∧ (∀ i, i < 24 → v' 10 i = v 10 i) ∧ v' 11 2 = v 11 2 ∧ (∀ i, i < 60 → v' 12 i = v 12 i) ∧ v' 14 2 = v 14 2 ∧ (∀ i, i < 60 → v' 15 i = v 15 i)
theorem kSRn.copy {v v' : kM} {g g' : Nat → Int32} {n H f w : Nat} (hS : kSRn v g n H f w) (hc : kCopied v v') (eg : ∀ j, j < 481 → g' j = g j) : kSRn v' g' n H f w := by
  obtain ⟨c0, c1, c2, c3, c4, c5, c6, c7, c8, c9, c10, c11, c12, c14, c15⟩ := hc
  obtain ⟨s_n, s_H, s_f, s_w, s_z, s_dr, s_la, s_sh, s_kn, s_t0, s_t1, s_ta, s_wa⟩ := hS
  have hn := s_n.1
  have hf := s_f.1
  have hw := s_w.1
  refine ⟨?_, ?_, ?_, ?_, ?_, fun i hi => ?_, fun i hi => ?_, fun p hp => ?_, fun k hk => ?_, ?_, ?_, fun i hi => ?_, fun i hi => ?_⟩
  · rw [c0 12 (by decide) (by decide), eg 0 (by decide)]; exact s_n
  · rw [c0 13 (by decide) (by decide), eg 1 (by decide)]; exact s_H
  · rw [c0 14 (by decide) (by decide), eg 4 (by decide)]; exact s_f
  · rw [c0 15 (by decide) (by decide), eg 5 (by decide)]; exact s_w
  · rw [c0 16 (by decide) (by decide), eg 6 (by decide)]; exact s_z
  · rw [c2 i hi, eg _ (by omega)]; exact s_dr i hi
  · rw [c1 i hi, eg _ (by omega)]; exact s_la i hi
  · have hs := s_sh p hp
    unfold kShipR at hs ⊢
    rw [c3 p (by omega), c4 p (by omega), eg (72 + 3 * p) (by omega), eg (73 + 3 * p) (by omega), eg (74 + 3 * p) (by omega)]
    exact hs
  · have hs := s_kn k hk
    unfold kKnotR at hs ⊢
    rw [c5 k (by omega), c6 k (by omega), c7 k (by omega), c8 k (by omega), eg (87 + 4 * k) (by omega), eg (88 + 4 * k) (by omega), eg (89 + 4 * k) (by omega), eg (90 + 4 * k) (by omega)]
    exact hs
  · exact s_t0.copy c11 c12 (fun j j1 j2 => eg j (by omega))
  · exact s_t1.copy c14 c15 (fun j j1 j2 => eg j (by omega))
  · rw [c9 i (by omega), eg _ (by omega)]; exact s_ta i hi
  · rw [c10 i (by omega), eg _ (by omega)]; exact s_wa i hi
theorem sg_X2_become_0 {G : kG} {d : Nat} {Q : Int32 → kM → Prop} {b : Nat} {b2 : Nat}  {h : kM} (hd : 3 ≤ d) (k_b : kSea b) (k_b2 : kSea b2) (H :
    ∀ h1 : kM, h1 = kCp h (b2 + 1) (b + 1) 0 0 64 →
    ∀ h2 : kM, h2 = kCp h1 (b2 + 2) (b + 2) 0 0 2 →
    ∀ h3 : kM, h3 = kCp h2 (b2 + 3) (b + 3) 0 0 5 →
    ∀ h4 : kM, h4 = kCp h3 (b2 + 4) (b + 4) 0 0 5 →
    ∀ h5 : kM, h5 = kCp h4 (b2 + 5) (b + 5) 0 0 15 →
    ∀ h6 : kM, h6 = kCp h5 (b2 + 6) (b + 6) 0 0 15 →
    ∀ h7 : kM, h7 = kCp h6 (b2 + 7) (b + 7) 0 0 15 →
    ∀ h8 : kM, h8 = kCp h7 (b2 + 8) (b + 8) 0 0 15 →
    ∀ h9 : kM, h9 = kCp h8 (b2 + 9) (b + 9) 0 0 60 →
    ∀ h10 : kM, h10 = kCp h9 (b2 + 10) (b + 10) 0 0 24 →
    ∀ h11 : kM, h11 = kTxtCp h10 (b + 11) (b2 + 11) →
    ∀ h12 : kM, h12 = kTxtCp h11 (b + 14) (b2 + 14) →
    ∀ h13 : kM, h13 = kU h12 b 12 (h12 b2 12) →
    ∀ h14 : kM, h14 = kU h13 b 13 (h13 b2 13) →
    ∀ h15 : kM, h15 = kU h14 b 14 (h14 b2 14) →
    ∀ h16 : kM, h16 = kU h15 b 15 (h15 b2 15) →
    ∀ h17 : kM, h17 = kU h16 b 16 (h16 b2 16) →
    Q 0 h17) : Wp G d m_X2_become (kEo G d m_X2_become Q) 0 [.ref b, .ref b2] [] h := by
  refine wp_aload_n 1 dX2_become_0 rfl rfl ?_
  refine wp_getR 1 (b2 + 1) 4 dX2_become_1 rfl fl_X2_9 (kSea_0 k_b2) rfl rfl rfl rfl ?_
  refine wp_iconst (0 : Int32) 5 dX2_become_4 kiconst_0 rfl ?_
  refine wp_aload_n 6 dX2_become_5 rfl rfl ?_
  refine wp_getR 1 (b + 1) 9 dX2_become_6 rfl fl_X2_9 (kSea_0 k_b) rfl rfl rfl rfl ?_
  refine wp_iconst (0 : Int32) 10 dX2_become_9 kiconst_0 rfl ?_
  refine wp_bipush (64 : Int32) 12 dX2_become_10 kbipush_64 rfl ?_
  refine wp_copy 15 dX2_become_12 rfl ac_X2_56 (by omega) (Nat.le_of_ble_eq_true rfl) (kSea_1 k_b2) (kSea_1 k_b) (by decide) (by decide) (by decide) (by decide) (by decide) ?_
  refine wp_nm (fun h1 eh1 => ?_)
  replace H := H h1 eh1
  refine wp_aload_n 16 dX2_become_15 rfl rfl ?_
  refine wp_getR 2 (b2 + 2) 19 dX2_become_16 rfl fl_X2_15 (kSea_0 k_b2) rfl rfl rfl rfl ?_
  refine wp_iconst (0 : Int32) 20 dX2_become_19 kiconst_0 rfl ?_
  refine wp_aload_n 21 dX2_become_20 rfl rfl ?_
  refine wp_getR 2 (b + 2) 24 dX2_become_21 rfl fl_X2_15 (kSea_0 k_b) rfl rfl rfl rfl ?_
  refine wp_iconst (0 : Int32) 25 dX2_become_24 kiconst_0 rfl ?_
  refine wp_iconst (2 : Int32) 26 dX2_become_25 kiconst_2 rfl ?_
  refine wp_copy 29 dX2_become_26 rfl ac_X2_56 (by omega) (Nat.le_of_ble_eq_true rfl) (kSea_2 k_b2) (kSea_2 k_b) (by decide) (by decide) (by decide) (by decide) (by decide) ?_
  refine wp_nm (fun h2 eh2 => ?_)
  replace H := H h2 eh2
  refine wp_aload_n 30 dX2_become_29 rfl rfl ?_
  refine wp_getR 3 (b2 + 3) 33 dX2_become_30 rfl fl_X2_18 (kSea_0 k_b2) rfl rfl rfl rfl ?_
  refine wp_iconst (0 : Int32) 34 dX2_become_33 kiconst_0 rfl ?_
  refine wp_aload_n 35 dX2_become_34 rfl rfl ?_
  refine wp_getR 3 (b + 3) 38 dX2_become_35 rfl fl_X2_18 (kSea_0 k_b) rfl rfl rfl rfl ?_
  refine wp_iconst (0 : Int32) 39 dX2_become_38 kiconst_0 rfl ?_
  refine wp_iconst (5 : Int32) 40 dX2_become_39 kiconst_5 rfl ?_
  refine wp_copy 43 dX2_become_40 rfl ac_X2_56 (by omega) (Nat.le_of_ble_eq_true rfl) (kSea_3 k_b2) (kSea_3 k_b) (by decide) (by decide) (by decide) (by decide) (by decide) ?_
  refine wp_nm (fun h3 eh3 => ?_)
  replace H := H h3 eh3
  refine wp_aload_n 44 dX2_become_43 rfl rfl ?_
  refine wp_getR 4 (b2 + 4) 47 dX2_become_44 rfl fl_X2_21 (kSea_0 k_b2) rfl rfl rfl rfl ?_
  refine wp_iconst (0 : Int32) 48 dX2_become_47 kiconst_0 rfl ?_
  refine wp_aload_n 49 dX2_become_48 rfl rfl ?_
  refine wp_getR 4 (b + 4) 52 dX2_become_49 rfl fl_X2_21 (kSea_0 k_b) rfl rfl rfl rfl ?_
  refine wp_iconst (0 : Int32) 53 dX2_become_52 kiconst_0 rfl ?_
  refine wp_iconst (5 : Int32) 54 dX2_become_53 kiconst_5 rfl ?_
  refine wp_copy 57 dX2_become_54 rfl ac_X2_56 (by omega) (Nat.le_of_ble_eq_true rfl) (kSea_4 k_b2) (kSea_4 k_b) (by decide) (by decide) (by decide) (by decide) (by decide) ?_
  refine wp_nm (fun h4 eh4 => ?_)
  replace H := H h4 eh4
  refine wp_aload_n 58 dX2_become_57 rfl rfl ?_
  refine wp_getR 5 (b2 + 5) 61 dX2_become_58 rfl fl_X2_24 (kSea_0 k_b2) rfl rfl rfl rfl ?_
  refine wp_iconst (0 : Int32) 62 dX2_become_61 kiconst_0 rfl ?_
  refine wp_aload_n 63 dX2_become_62 rfl rfl ?_
  refine wp_getR 5 (b + 5) 66 dX2_become_63 rfl fl_X2_24 (kSea_0 k_b) rfl rfl rfl rfl ?_
  refine wp_iconst (0 : Int32) 67 dX2_become_66 kiconst_0 rfl ?_
  refine wp_bipush (15 : Int32) 69 dX2_become_67 kbipush_15 rfl ?_
  refine wp_copy 72 dX2_become_69 rfl ac_X2_56 (by omega) (Nat.le_of_ble_eq_true rfl) (kSea_5 k_b2) (kSea_5 k_b) (by decide) (by decide) (by decide) (by decide) (by decide) ?_
  refine wp_nm (fun h5 eh5 => ?_)
  replace H := H h5 eh5
  refine wp_aload_n 73 dX2_become_72 rfl rfl ?_
  refine wp_getR 6 (b2 + 6) 76 dX2_become_73 rfl fl_X2_27 (kSea_0 k_b2) rfl rfl rfl rfl ?_
  refine wp_iconst (0 : Int32) 77 dX2_become_76 kiconst_0 rfl ?_
  refine wp_aload_n 78 dX2_become_77 rfl rfl ?_
  refine wp_getR 6 (b + 6) 81 dX2_become_78 rfl fl_X2_27 (kSea_0 k_b) rfl rfl rfl rfl ?_
  refine wp_iconst (0 : Int32) 82 dX2_become_81 kiconst_0 rfl ?_
  refine wp_bipush (15 : Int32) 84 dX2_become_82 kbipush_15 rfl ?_
  refine wp_copy 87 dX2_become_84 rfl ac_X2_56 (by omega) (Nat.le_of_ble_eq_true rfl) (kSea_6 k_b2) (kSea_6 k_b) (by decide) (by decide) (by decide) (by decide) (by decide) ?_
  refine wp_nm (fun h6 eh6 => ?_)
  replace H := H h6 eh6
  refine wp_aload_n 88 dX2_become_87 rfl rfl ?_
  refine wp_getR 7 (b2 + 7) 91 dX2_become_88 rfl fl_X2_30 (kSea_0 k_b2) rfl rfl rfl rfl ?_
  refine wp_iconst (0 : Int32) 92 dX2_become_91 kiconst_0 rfl ?_
  refine wp_aload_n 93 dX2_become_92 rfl rfl ?_
  refine wp_getR 7 (b + 7) 96 dX2_become_93 rfl fl_X2_30 (kSea_0 k_b) rfl rfl rfl rfl ?_
  refine wp_iconst (0 : Int32) 97 dX2_become_96 kiconst_0 rfl ?_
  refine wp_bipush (15 : Int32) 99 dX2_become_97 kbipush_15 rfl ?_
  refine wp_copy 102 dX2_become_99 rfl ac_X2_56 (by omega) (Nat.le_of_ble_eq_true rfl) (kSea_7 k_b2) (kSea_7 k_b) (by decide) (by decide) (by decide) (by decide) (by decide) ?_
  refine wp_nm (fun h7 eh7 => ?_)
  replace H := H h7 eh7
  refine wp_aload_n 103 dX2_become_102 rfl rfl ?_
  refine wp_getR 8 (b2 + 8) 106 dX2_become_103 rfl fl_X2_33 (kSea_0 k_b2) rfl rfl rfl rfl ?_
  refine wp_iconst (0 : Int32) 107 dX2_become_106 kiconst_0 rfl ?_
  refine wp_aload_n 108 dX2_become_107 rfl rfl ?_
  refine wp_getR 8 (b + 8) 111 dX2_become_108 rfl fl_X2_33 (kSea_0 k_b) rfl rfl rfl rfl ?_
  refine wp_iconst (0 : Int32) 112 dX2_become_111 kiconst_0 rfl ?_
  refine wp_bipush (15 : Int32) 114 dX2_become_112 kbipush_15 rfl ?_
  refine wp_copy 117 dX2_become_114 rfl ac_X2_56 (by omega) (Nat.le_of_ble_eq_true rfl) (kSea_8 k_b2) (kSea_8 k_b) (by decide) (by decide) (by decide) (by decide) (by decide) ?_
  refine wp_nm (fun h8 eh8 => ?_)
  replace H := H h8 eh8
  refine wp_aload_n 118 dX2_become_117 rfl rfl ?_
  refine wp_getR 9 (b2 + 9) 121 dX2_become_118 rfl fl_X2_36 (kSea_0 k_b2) rfl rfl rfl rfl ?_
  refine wp_iconst (0 : Int32) 122 dX2_become_121 kiconst_0 rfl ?_
  refine wp_aload_n 123 dX2_become_122 rfl rfl ?_
  refine wp_getR 9 (b + 9) 126 dX2_become_123 rfl fl_X2_36 (kSea_0 k_b) rfl rfl rfl rfl ?_
  refine wp_iconst (0 : Int32) 127 dX2_become_126 kiconst_0 rfl ?_
  refine wp_bipush (60 : Int32) 129 dX2_become_127 kbipush_60 rfl ?_
  refine wp_copy 132 dX2_become_129 rfl ac_X2_56 (by omega) (Nat.le_of_ble_eq_true rfl) (kSea_9 k_b2) (kSea_9 k_b) (by decide) (by decide) (by decide) (by decide) (by decide) ?_
  refine wp_nm (fun h9 eh9 => ?_)
  replace H := H h9 eh9
  refine wp_aload_n 133 dX2_become_132 rfl rfl ?_
  refine wp_getR 10 (b2 + 10) 136 dX2_become_133 rfl fl_X2_39 (kSea_0 k_b2) rfl rfl rfl rfl ?_
  refine wp_iconst (0 : Int32) 137 dX2_become_136 kiconst_0 rfl ?_
  refine wp_aload_n 138 dX2_become_137 rfl rfl ?_
  refine wp_getR 10 (b + 10) 141 dX2_become_138 rfl fl_X2_39 (kSea_0 k_b) rfl rfl rfl rfl ?_
  refine wp_iconst (0 : Int32) 142 dX2_become_141 kiconst_0 rfl ?_
  refine wp_bipush (24 : Int32) 144 dX2_become_142 kbipush_24 rfl ?_
  refine wp_copy 147 dX2_become_144 rfl ac_X2_56 (by omega) (Nat.le_of_ble_eq_true rfl) (kSea_10 k_b2) (kSea_10 k_b) (by decide) (by decide) (by decide) (by decide) (by decide) ?_
  refine wp_nm (fun h10 eh10 => ?_)
  replace H := H h10 eh10
  refine wp_aload_n 148 dX2_become_147 rfl rfl ?_
  refine wp_getR 11 (b + 11) 151 dX2_become_148 rfl fl_X2_45 (kSea_0 k_b) rfl rfl rfl rfl ?_
  refine wp_aload_n 152 dX2_become_151 rfl rfl ?_
  refine wp_getR 11 (b2 + 11) 155 dX2_become_152 rfl fl_X2_45 (kSea_0 k_b2) rfl rfl rfl rfl ?_
  refine wp_cV (d - 1) 1 [.ref (b2 + 11)] [] 158 dX2_become_155 rfl (lk_X2_62 rfl) (by omega) (kSea_11 k_b) rfl rfl rfl (Nat.le_of_ble_eq_true rfl) (sp_X6_become (by omega) (kSea_txt11 k_b) (kSea_txt11 k_b2) (fun h11 eh11 => ?_))
  replace H := H h11 eh11
  refine wp_aload_n 159 dX2_become_158 rfl rfl ?_
  refine wp_getR 14 (b + 14) 162 dX2_become_159 rfl fl_X2_49 (kSea_0 k_b) rfl rfl rfl rfl ?_
  refine wp_aload_n 163 dX2_become_162 rfl rfl ?_
  refine wp_getR 14 (b2 + 14) 166 dX2_become_163 rfl fl_X2_49 (kSea_0 k_b2) rfl rfl rfl rfl ?_
  refine wp_cV (d - 1) 1 [.ref (b2 + 14)] [] 169 dX2_become_166 rfl (lk_X2_62 rfl) (by omega) (kSea_14 k_b) rfl rfl rfl (Nat.le_of_ble_eq_true rfl) (sp_X6_become (by omega) (kSea_txt14 k_b) (kSea_txt14 k_b2) (fun h12 eh12 => ?_))
  replace H := H h12 eh12
  refine wp_aload_n 170 dX2_become_169 rfl rfl ?_
  refine wp_aload_n 171 dX2_become_170 rfl rfl ?_
  refine wp_getI 174 dX2_become_171 rfl fl_X2_66 (kSea_0 k_b2) rfl ?_
  refine wp_putI 177 dX2_become_174 rfl fl_X2_66 fin_2_12 (kSea_0 k_b) rfl ?_
  refine wp_nm (fun h13 eh13 => ?_)
  replace H := H h13 eh13
  refine wp_aload_n 178 dX2_become_177 rfl rfl ?_
  refine wp_aload_n 179 dX2_become_178 rfl rfl ?_
  refine wp_getI 182 dX2_become_179 rfl fl_X2_69 (kSea_0 k_b2) rfl ?_
  refine wp_putI 185 dX2_become_182 rfl fl_X2_69 fin_2_13 (kSea_0 k_b) rfl ?_
  refine wp_nm (fun h14 eh14 => ?_)
  replace H := H h14 eh14
  refine wp_aload_n 186 dX2_become_185 rfl rfl ?_
  refine wp_aload_n 187 dX2_become_186 rfl rfl ?_
  refine wp_getI 190 dX2_become_187 rfl fl_X2_72 (kSea_0 k_b2) rfl ?_
  refine wp_putI 193 dX2_become_190 rfl fl_X2_72 fin_2_14 (kSea_0 k_b) rfl ?_
  refine wp_nm (fun h15 eh15 => ?_)
  replace H := H h15 eh15
  refine wp_aload_n 194 dX2_become_193 rfl rfl ?_
  refine wp_aload_n 195 dX2_become_194 rfl rfl ?_
  refine wp_getI 198 dX2_become_195 rfl fl_X2_75 (kSea_0 k_b2) rfl ?_
  refine wp_putI 201 dX2_become_198 rfl fl_X2_75 fin_2_15 (kSea_0 k_b) rfl ?_
  refine wp_nm (fun h16 eh16 => ?_)
  replace H := H h16 eh16
  refine wp_aload_n 202 dX2_become_201 rfl rfl ?_
  refine wp_aload_n 203 dX2_become_202 rfl rfl ?_
  refine wp_getI 206 dX2_become_203 rfl fl_X2_52 (kSea_0 k_b2) rfl ?_
  refine wp_putI 209 dX2_become_206 rfl fl_X2_52 fin_2_16 (kSea_0 k_b) rfl ?_
  refine wp_nm (fun h17 eh17 => ?_)
  replace H := H h17 eh17
  exact wp_retv dX2_become_209 rfl H

theorem cg_X2_become {G : kG} {d : Nat} {Q : Int32 → kM → Prop} {b : Nat} {b2 : Nat}  {h : kM} (hd : 3 ≤ d) (k_b : kSea b) (k_b2 : kSea b2) (H :
    ∀ h1 : kM, h1 = kCp h (b2 + 1) (b + 1) 0 0 64 →
    ∀ h2 : kM, h2 = kCp h1 (b2 + 2) (b + 2) 0 0 2 →
    ∀ h3 : kM, h3 = kCp h2 (b2 + 3) (b + 3) 0 0 5 →
    ∀ h4 : kM, h4 = kCp h3 (b2 + 4) (b + 4) 0 0 5 →
    ∀ h5 : kM, h5 = kCp h4 (b2 + 5) (b + 5) 0 0 15 →
    ∀ h6 : kM, h6 = kCp h5 (b2 + 6) (b + 6) 0 0 15 →
    ∀ h7 : kM, h7 = kCp h6 (b2 + 7) (b + 7) 0 0 15 →
    ∀ h8 : kM, h8 = kCp h7 (b2 + 8) (b + 8) 0 0 15 →
    ∀ h9 : kM, h9 = kCp h8 (b2 + 9) (b + 9) 0 0 60 →
    ∀ h10 : kM, h10 = kCp h9 (b2 + 10) (b + 10) 0 0 24 →
    ∀ h11 : kM, h11 = kTxtCp h10 (b + 11) (b2 + 11) →
    ∀ h12 : kM, h12 = kTxtCp h11 (b + 14) (b2 + 14) →
    ∀ h13 : kM, h13 = kU h12 b 12 (h12 b2 12) →
    ∀ h14 : kM, h14 = kU h13 b 13 (h13 b2 13) →
    ∀ h15 : kM, h15 = kU h14 b 14 (h14 b2 14) →
    ∀ h16 : kM, h16 = kU h15 b 15 (h15 b2 15) →
    ∀ h17 : kM, h17 = kU h16 b 16 (h16 b2 16) →
    Q 0 h17) : Cal G d m_X2_become [.ref b, .ref b2] h Q :=
  Cal.of [.ref b, .ref b2] (by decide +kernel) (Nat.le_of_ble_eq_true rfl) rfl (sg_X2_become_0 hd k_b k_b2 H)

theorem sg_X7_image_0 {G : kG} {d : Nat} {Q : Int32 → kM → Prop}   {h : kM} (hd : 4 ≤ d)  (H :
    Cal G (d - 1) m_X2_become [.ref 18, .ref 1] h (fun x1 h2 =>
      ∀ h3 : kM, h3 = kU h2 0 2 ((h2 0 2) + (1 : Int32)) →
      Q (h3 0 2) h3
    )) : Wp G d m_X7_image (kEo G d m_X7_image Q) 0 [.ref 0] [] h := by
  refine wp_aload_n 1 dX7_image_0 rfl rfl ?_
  refine wp_getR 18 18 4 dX7_image_1 rfl fl_X7_16 kd_0 rfl rfl rfl rfl ?_
  refine wp_aload_n 5 dX7_image_4 rfl rfl ?_
  refine wp_getR 1 1 8 dX7_image_5 rfl fl_X7_12 kd_0 rfl rfl rfl rfl ?_
  refine wp_cV (d - 1) 1 [.ref 1] [] 11 dX7_image_8 rfl (lk_X7_272 rfl) (by omega) kd_18 rfl rfl rfl (Nat.le_of_ble_eq_true rfl) (H.mono (fun x1 h2 H => ?_))
  refine wp_aload_n 12 dX7_image_11 rfl rfl ?_
  refine wp_dup 13 dX7_image_12 rfl rfl ?_
  refine wp_getI 16 dX7_image_13 rfl fl_X7_218 kd_0 rfl ?_
  refine wp_iconst (1 : Int32) 17 dX7_image_16 kiconst_1 rfl ?_
  refine wp_iadd 18 dX7_image_17 rfl ?_
  refine wp_putI 21 dX7_image_18 rfl fl_X7_218 fin_7_2 kd_0 rfl ?_
  refine wp_nm (fun h3 eh3 => ?_)
  replace H := H h3 eh3
  refine wp_aload_n 22 dX7_image_21 rfl rfl ?_
  refine wp_getI 25 dX7_image_22 rfl fl_X7_218 kd_0 rfl ?_
  exact wp_reti dX7_image_25 rfl H

theorem cg_X7_image {G : kG} {d : Nat} {Q : Int32 → kM → Prop}   {h : kM} (hd : 4 ≤ d)  (H :
    Cal G (d - 1) m_X2_become [.ref 18, .ref 1] h (fun x1 h2 =>
      ∀ h3 : kM, h3 = kU h2 0 2 ((h2 0 2) + (1 : Int32)) →
      Q (h3 0 2) h3
    )) : Cal G d m_X7_image [.ref 0] h Q :=
  Cal.of [.ref 0] (by decide +kernel) (Nat.le_of_ble_eq_true rfl) rfl (sg_X7_image_0 hd  H)

theorem sg_X8_image_0 {G : kG} {d : Nat} {Q : Int32 → kM → Prop}   {h : kM} (hd : 2 ≤ d)  (H :
    (90 ≠ 89) ∧
    ∀ h2 : kM, h2 = kCp h 89 90 0 0 481 →
    ∀ h3 : kM, h3 = kU h2 88 4 ((h2 88 4) + (1 : Int32)) →
    Q (h3 88 4) h3) : Wp G d m_X8_image (kEo G d m_X8_image Q) 0 [.ref 88] [] h := by
  refine wp_aload_n 1 dX8_image_0 rfl rfl ?_
  refine wp_getR 1 89 4 dX8_image_1 rfl fl_X8_7 kd_88 rfl rfl rfl rfl ?_
  refine wp_aload_n 5 dX8_image_4 rfl rfl ?_
  refine wp_getR 2 90 8 dX8_image_5 rfl fl_X8_13 kd_88 rfl rfl rfl rfl ?_
  have c1 := H.1; replace H := H.2
  refine wp_cS (d - 1) 2 [.ref 89, .ref 90] [] 11 dX8_image_8 rfl (lk_X8_236 rfl) (by omega) rfl rfl (Nat.le_of_ble_eq_true rfl) (sp_X8_carry (by omega) kd_89 kd_90 c1 (fun h2 eh2 => ?_))
  replace H := H h2 eh2
  refine wp_aload_n 12 dX8_image_11 rfl rfl ?_
  refine wp_dup 13 dX8_image_12 rfl rfl ?_
  refine wp_getI 16 dX8_image_13 rfl fl_X8_233 kd_88 rfl ?_
  refine wp_iconst (1 : Int32) 17 dX8_image_16 kiconst_1 rfl ?_
  refine wp_iadd 18 dX8_image_17 rfl ?_
  refine wp_putI 21 dX8_image_18 rfl fl_X8_233 fin_8_4 kd_88 rfl ?_
  refine wp_nm (fun h3 eh3 => ?_)
  replace H := H h3 eh3
  refine wp_aload_n 22 dX8_image_21 rfl rfl ?_
  refine wp_getI 25 dX8_image_22 rfl fl_X8_233 kd_88 rfl ?_
  exact wp_reti dX8_image_25 rfl H

theorem cg_X8_image {G : kG} {d : Nat} {Q : Int32 → kM → Prop}   {h : kM} (hd : 2 ≤ d)  (H :
    (90 ≠ 89) ∧
    ∀ h2 : kM, h2 = kCp h 89 90 0 0 481 →
    ∀ h3 : kM, h3 = kU h2 88 4 ((h2 88 4) + (1 : Int32)) →
    Q (h3 88 4) h3) : Cal G d m_X8_image [.ref 88] h Q :=
  Cal.of [.ref 88] (by decide +kernel) (Nat.le_of_ble_eq_true rfl) rfl (sg_X8_image_0 hd  H)

theorem sg_X7_restore_0 {G : kG} {d : Nat} {Q : Int32 → kM → Prop}   {h : kM} (hd : 4 ≤ d)  (H :
    ((¬ (h 0 2) = 0 →
      Cal G (d - 1) m_X2_become [.ref 1, .ref 18] h (fun x2 h3 =>
        Q (h3 1 13) h3
      )
    ) ∧ ((h 0 2) = 0 →
      (vp_in (2 : Int32) 7) ∧
      ∀ h5 : kM, h5 = kErr h 87 (2 : Int32) →
      Q (-1000000000 - (2 : Int32)) h5
    ))) : Wp G d m_X7_restore (kEo G d m_X7_restore Q) 0 [.ref 0] [] h := by
  refine wp_aload_n 1 dX7_restore_0 rfl rfl ?_
  refine wp_getI 4 dX7_restore_1 rfl fl_X7_218 kd_0 rfl ?_
  refine wp_if_ne 13 7 dX7_restore_4 rfl rfl ⟨fun c1 => ?_, fun c1 => ?_⟩
  · replace H := H.1 c1
    refine wp_aload_n 14 dX7_restore_13 rfl rfl ?_
    refine wp_getR 1 1 17 dX7_restore_14 rfl fl_X7_12 kd_0 rfl rfl rfl rfl ?_
    refine wp_aload_n 18 dX7_restore_17 rfl rfl ?_
    refine wp_getR 18 18 21 dX7_restore_18 rfl fl_X7_16 kd_0 rfl rfl rfl rfl ?_
    refine wp_cV (d - 1) 1 [.ref 18] [] 24 dX7_restore_21 rfl (lk_X7_272 rfl) (by omega) kd_1 rfl rfl rfl (Nat.le_of_ble_eq_true rfl) (H.mono (fun x2 h3 H => ?_))
    refine wp_aload_n 25 dX7_restore_24 rfl rfl ?_
    refine wp_getR 1 1 28 dX7_restore_25 rfl fl_X7_12 kd_0 rfl rfl rfl rfl ?_
    refine wp_getI 31 dX7_restore_28 rfl fl_X7_126 kd_1 rfl ?_
    exact wp_reti dX7_restore_31 rfl H
  · replace H := H.2 c1
    refine wp_aload_n 8 dX7_restore_7 rfl rfl ?_
    refine wp_iconst (2 : Int32) 9 dX7_restore_8 kiconst_2 rfl ?_
    have c4 := H.1; replace H := H.2
    refine wp_cV (d - 1) 1 [.int (2 : Int32)] [] 12 dX7_restore_9 rfl (lk_X7_62 rfl) (by omega) kd_0 rfl rfl rfl (Nat.le_of_ble_eq_true rfl) (sp_X7_error (by omega) c4 (fun h5 eh5 => ?_))
    replace H := H h5 eh5
    exact wp_reti dX7_restore_12 rfl H

theorem cg_X7_restore {G : kG} {d : Nat} {Q : Int32 → kM → Prop}   {h : kM} (hd : 4 ≤ d)  (H :
    ((¬ (h 0 2) = 0 →
      Cal G (d - 1) m_X2_become [.ref 1, .ref 18] h (fun x2 h3 =>
        Q (h3 1 13) h3
      )
    ) ∧ ((h 0 2) = 0 →
      (vp_in (2 : Int32) 7) ∧
      ∀ h5 : kM, h5 = kErr h 87 (2 : Int32) →
      Q (-1000000000 - (2 : Int32)) h5
    ))) : Cal G d m_X7_restore [.ref 0] h Q :=
  Cal.of [.ref 0] (by decide +kernel) (Nat.le_of_ble_eq_true rfl) rfl (sg_X7_restore_0 hd  H)

theorem sg_X8_restore_0 {G : kG} {d : Nat} {Q : Int32 → kM → Prop}   {h : kM} (hd : 2 ≤ d)  (H :
    ((¬ (h 88 4) = 0 →
      (89 ≠ 90) ∧
      ∀ h3 : kM, h3 = kCp h 90 89 0 0 481 →
      Q (h3 89 1) h3
    ) ∧ ((h 88 4) = 0 →
      (vp_in (2 : Int32) 7) ∧
      ∀ h5 : kM, h5 = kErr h 93 (2 : Int32) →
      Q (-1000000000 - (2 : Int32)) h5
    ))) : Wp G d m_X8_restore (kEo G d m_X8_restore Q) 0 [.ref 88] [] h := by
  refine wp_aload_n 1 dX8_restore_0 rfl rfl ?_
  refine wp_getI 4 dX8_restore_1 rfl fl_X8_233 kd_88 rfl ?_
  refine wp_if_ne 13 7 dX8_restore_4 rfl rfl ⟨fun c1 => ?_, fun c1 => ?_⟩
  · replace H := H.1 c1
    refine wp_aload_n 14 dX8_restore_13 rfl rfl ?_
    refine wp_getR 2 90 17 dX8_restore_14 rfl fl_X8_13 kd_88 rfl rfl rfl rfl ?_
    refine wp_aload_n 18 dX8_restore_17 rfl rfl ?_
    refine wp_getR 1 89 21 dX8_restore_18 rfl fl_X8_7 kd_88 rfl rfl rfl rfl ?_
    have c2 := H.1; replace H := H.2
    refine wp_cS (d - 1) 2 [.ref 90, .ref 89] [] 24 dX8_restore_21 rfl (lk_X8_236 rfl) (by omega) rfl rfl (Nat.le_of_ble_eq_true rfl) (sp_X8_carry (by omega) kd_90 kd_89 c2 (fun h3 eh3 => ?_))
    replace H := H h3 eh3
    refine wp_aload_n 25 dX8_restore_24 rfl rfl ?_
    refine wp_getR 1 89 28 dX8_restore_25 rfl fl_X8_7 kd_88 rfl rfl rfl rfl ?_
    refine wp_iconst (1 : Int32) 29 dX8_restore_28 kiconst_1 rfl ?_
    refine wp_iald 30 dX8_restore_29 rfl kd_89 (by unfold vp_in; decide) ?_
    exact wp_reti dX8_restore_30 rfl H
  · replace H := H.2 c1
    refine wp_aload_n 8 dX8_restore_7 rfl rfl ?_
    refine wp_iconst (2 : Int32) 9 dX8_restore_8 kiconst_2 rfl ?_
    have c4 := H.1; replace H := H.2
    refine wp_cV (d - 1) 1 [.int (2 : Int32)] [] 12 dX8_restore_9 rfl (lk_X8_62 rfl) (by omega) kd_88 rfl rfl rfl (Nat.le_of_ble_eq_true rfl) (sp_X8_error (by omega) c4 (fun h5 eh5 => ?_))
    replace H := H h5 eh5
    exact wp_reti dX8_restore_12 rfl H

theorem cg_X8_restore {G : kG} {d : Nat} {Q : Int32 → kM → Prop}   {h : kM} (hd : 2 ≤ d)  (H :
    ((¬ (h 88 4) = 0 →
      (89 ≠ 90) ∧
      ∀ h3 : kM, h3 = kCp h 90 89 0 0 481 →
      Q (h3 89 1) h3
    ) ∧ ((h 88 4) = 0 →
      (vp_in (2 : Int32) 7) ∧
      ∀ h5 : kM, h5 = kErr h 93 (2 : Int32) →
      Q (-1000000000 - (2 : Int32)) h5
    ))) : Cal G d m_X8_restore [.ref 88] h Q :=
  Cal.of [.ref 88] (by decide +kernel) (Nat.le_of_ble_eq_true rfl) rfl (sg_X8_restore_0 hd  H)

theorem cpyS {f g : Nat → Int32} {n : Nat} : ∀ i, i < n → va_cpy f g 0 0 n i = f i := fun i hi => by rw [cpy0, if_pos hi]
theorem sp_X2_become (hd : 3 ≤ d) {b b2 : Nat} (hb : kSea b) (hb2 : kSea b2) (hbb : b + 17 ≤ b2 ∨ b2 + 17 ≤ b) (kk : ∀ h1, (∀ a, ¬ (b ≤ a ∧ a ≤ b + 16) → h1 a = h a) → kCopied (kVw h b2) (kVw h1 b) → Q 0 h1) : Cal G d m_X2_become [.ref b, .ref b2] h Q := by
  refine cg_X2_become hd hb hb2 (fun h1 e1 h2 e2 h3 e3 h4 e4 h5 e5 h6 e6 h7 e7 h8 e8 h9 e9 h10 e10 h11 e11 h12 e12 h13 e13 h14 e14 h15 e15 h16 e16 h17 e17 => ?_)
  have o1 : ∀ a, a ≠ b + 1 → h1 a = h a := fun a x => by rw [e1, kCp_ne x]
  have o2 : ∀ a, a ≠ b + 2 → h2 a = h1 a := fun a x => by rw [e2, kCp_ne x]
  have o3 : ∀ a, a ≠ b + 3 → h3 a = h2 a := fun a x => by rw [e3, kCp_ne x]
  have o4 : ∀ a, a ≠ b + 4 → h4 a = h3 a := fun a x => by rw [e4, kCp_ne x]
  have o5 : ∀ a, a ≠ b + 5 → h5 a = h4 a := fun a x => by rw [e5, kCp_ne x]
  have o6 : ∀ a, a ≠ b + 6 → h6 a = h5 a := fun a x => by rw [e6, kCp_ne x]
  have o7 : ∀ a, a ≠ b + 7 → h7 a = h6 a := fun a x => by rw [e7, kCp_ne x]
  have o8 : ∀ a, a ≠ b + 8 → h8 a = h7 a := fun a x => by rw [e8, kCp_ne x]
  have o9 : ∀ a, a ≠ b + 9 → h9 a = h8 a := fun a x => by rw [e9, kCp_ne x]
  have o10 : ∀ a, a ≠ b + 10 → h10 a = h9 a := fun a x => by rw [e10, kCp_ne x]
  have o11 : ∀ a, a ≠ b + 11 → a ≠ b + 12 → h11 a = h10 a := fun a x y => by rw [e11]; unfold kTxtCp; rw [kU_ne x, kCp_ne y]
  have o12 : ∀ a, a ≠ b + 14 → a ≠ b + 15 → h12 a = h11 a := fun a x y => by rw [e12]; unfold kTxtCp; rw [kU_ne x, kCp_ne y]
  have o13 : ∀ a, a ≠ b → h13 a = h12 a := fun a x => by rw [e13, kU_ne x]
  have o14 : ∀ a, a ≠ b → h14 a = h13 a := fun a x => by rw [e14, kU_ne x]
  have o15 : ∀ a, a ≠ b → h15 a = h14 a := fun a x => by rw [e15, kU_ne x]
  have o16 : ∀ a, a ≠ b → h16 a = h15 a := fun a x => by rw [e16, kU_ne x]
  have o17 : ∀ a, a ≠ b → h17 a = h16 a := fun a x => by rw [e17, kU_ne x]
  have s0 : ∀ a, ¬ (b ≤ a ∧ a ≤ b + 16) → h a = h a := fun _ _ => rfl
  have s1 : ∀ a, ¬ (b ≤ a ∧ a ≤ b + 16) → h1 a = h a := fun a x => by rw [o1 a (by omega)]
  have s2 : ∀ a, ¬ (b ≤ a ∧ a ≤ b + 16) → h2 a = h a := fun a x => by rw [o2 a (by omega)]; exact s1 a x
  have s3 : ∀ a, ¬ (b ≤ a ∧ a ≤ b + 16) → h3 a = h a := fun a x => by rw [o3 a (by omega)]; exact s2 a x
  have s4 : ∀ a, ¬ (b ≤ a ∧ a ≤ b + 16) → h4 a = h a := fun a x => by rw [o4 a (by omega)]; exact s3 a x
  have s5 : ∀ a, ¬ (b ≤ a ∧ a ≤ b + 16) → h5 a = h a := fun a x => by rw [o5 a (by omega)]; exact s4 a x
  have s6 : ∀ a, ¬ (b ≤ a ∧ a ≤ b + 16) → h6 a = h a := fun a x => by rw [o6 a (by omega)]; exact s5 a x
  have s7 : ∀ a, ¬ (b ≤ a ∧ a ≤ b + 16) → h7 a = h a := fun a x => by rw [o7 a (by omega)]; exact s6 a x
  have s8 : ∀ a, ¬ (b ≤ a ∧ a ≤ b + 16) → h8 a = h a := fun a x => by rw [o8 a (by omega)]; exact s7 a x
  have s9 : ∀ a, ¬ (b ≤ a ∧ a ≤ b + 16) → h9 a = h a := fun a x => by rw [o9 a (by omega)]; exact s8 a x
  have s10 : ∀ a, ¬ (b ≤ a ∧ a ≤ b + 16) → h10 a = h a := fun a x => by rw [o10 a (by omega)]; exact s9 a x
  have s11 : ∀ a, ¬ (b ≤ a ∧ a ≤ b + 16) → h11 a = h a := fun a x => by rw [o11 a (by omega) (by omega)]; exact s10 a x
  have s12 : ∀ a, ¬ (b ≤ a ∧ a ≤ b + 16) → h12 a = h a := fun a x => by rw [o12 a (by omega) (by omega)]; exact s11 a x
  have s13 : ∀ a, ¬ (b ≤ a ∧ a ≤ b + 16) → h13 a = h a := fun a x => by rw [o13 a (by omega)]; exact s12 a x
  have s14 : ∀ a, ¬ (b ≤ a ∧ a ≤ b + 16) → h14 a = h a := fun a x => by rw [o14 a (by omega)]; exact s13 a x
  have s15 : ∀ a, ¬ (b ≤ a ∧ a ≤ b + 16) → h15 a = h a := fun a x => by rw [o15 a (by omega)]; exact s14 a x
  have s16 : ∀ a, ¬ (b ≤ a ∧ a ≤ b + 16) → h16 a = h a := fun a x => by rw [o16 a (by omega)]; exact s15 a x
  have s17 : ∀ a, ¬ (b ≤ a ∧ a ≤ b + 16) → h17 a = h a := fun a x => by rw [o17 a (by omega)]; exact s16 a x
  refine kk h17 s17 ⟨fun s x y => ?_, fun i hi => ?_, fun i hi => ?_, fun i hi => ?_, fun i hi => ?_, fun i hi => ?_, fun i hi => ?_, fun i hi => ?_, fun i hi => ?_, fun i hi => ?_, fun i hi => ?_, ?_, fun i hi => ?_, ?_, fun i hi => ?_⟩
  · show h17 b s = h b2 s
    rcases (show s = 12 ∨ s = 13 ∨ s = 14 ∨ s = 15 ∨ s = 16 by omega) with rfl | rfl | rfl | rfl | rfl
    · rw [e17, kU_eq, pk_un (by decide), e16, kU_eq, pk_un (by decide), e15, kU_eq, pk_un (by decide), e14, kU_eq, pk_un (by decide), e13, kU_eq, pk_us, s12 b2 (by omega)]
    · rw [e17, kU_eq, pk_un (by decide), e16, kU_eq, pk_un (by decide), e15, kU_eq, pk_un (by decide), e14, kU_eq, pk_us, s13 b2 (by omega)]
    · rw [e17, kU_eq, pk_un (by decide), e16, kU_eq, pk_un (by decide), e15, kU_eq, pk_us, s14 b2 (by omega)]
    · rw [e17, kU_eq, pk_un (by decide), e16, kU_eq, pk_us, s15 b2 (by omega)]
    · rw [e17, kU_eq, pk_us, s16 b2 (by omega)]
  · show h17 (b + 1) i = h (b2 + 1) i
    rw [o17 (b + 1) (by omega), o16 (b + 1) (by omega), o15 (b + 1) (by omega), o14 (b + 1) (by omega), o13 (b + 1) (by omega), o12 (b + 1) (by omega) (by omega), o11 (b + 1) (by omega) (by omega), o10 (b + 1) (by omega), o9 (b + 1) (by omega), o8 (b + 1) (by omega), o7 (b + 1) (by omega), o6 (b + 1) (by omega), o5 (b + 1) (by omega), o4 (b + 1) (by omega), o3 (b + 1) (by omega), o2 (b + 1) (by omega), e1, kCp_eq, cpyS i hi, s0 (b2 + 1) (by omega)]
  · show h17 (b + 2) i = h (b2 + 2) i
    rw [o17 (b + 2) (by omega), o16 (b + 2) (by omega), o15 (b + 2) (by omega), o14 (b + 2) (by omega), o13 (b + 2) (by omega), o12 (b + 2) (by omega) (by omega), o11 (b + 2) (by omega) (by omega), o10 (b + 2) (by omega), o9 (b + 2) (by omega), o8 (b + 2) (by omega), o7 (b + 2) (by omega), o6 (b + 2) (by omega), o5 (b + 2) (by omega), o4 (b + 2) (by omega), o3 (b + 2) (by omega), e2, kCp_eq, cpyS i hi, s1 (b2 + 2) (by omega)]
  · show h17 (b + 3) i = h (b2 + 3) i
    rw [o17 (b + 3) (by omega), o16 (b + 3) (by omega), o15 (b + 3) (by omega), o14 (b + 3) (by omega), o13 (b + 3) (by omega), o12 (b + 3) (by omega) (by omega), o11 (b + 3) (by omega) (by omega), o10 (b + 3) (by omega), o9 (b + 3) (by omega), o8 (b + 3) (by omega), o7 (b + 3) (by omega), o6 (b + 3) (by omega), o5 (b + 3) (by omega), o4 (b + 3) (by omega), e3, kCp_eq, cpyS i hi, s2 (b2 + 3) (by omega)]
  · show h17 (b + 4) i = h (b2 + 4) i
    rw [o17 (b + 4) (by omega), o16 (b + 4) (by omega), o15 (b + 4) (by omega), o14 (b + 4) (by omega), o13 (b + 4) (by omega), o12 (b + 4) (by omega) (by omega), o11 (b + 4) (by omega) (by omega), o10 (b + 4) (by omega), o9 (b + 4) (by omega), o8 (b + 4) (by omega), o7 (b + 4) (by omega), o6 (b + 4) (by omega), o5 (b + 4) (by omega), e4, kCp_eq, cpyS i hi, s3 (b2 + 4) (by omega)]
  · show h17 (b + 5) i = h (b2 + 5) i
    rw [o17 (b + 5) (by omega), o16 (b + 5) (by omega), o15 (b + 5) (by omega), o14 (b + 5) (by omega), o13 (b + 5) (by omega), o12 (b + 5) (by omega) (by omega), o11 (b + 5) (by omega) (by omega), o10 (b + 5) (by omega), o9 (b + 5) (by omega), o8 (b + 5) (by omega), o7 (b + 5) (by omega), o6 (b + 5) (by omega), e5, kCp_eq, cpyS i hi, s4 (b2 + 5) (by omega)]
  · show h17 (b + 6) i = h (b2 + 6) i
    rw [o17 (b + 6) (by omega), o16 (b + 6) (by omega), o15 (b + 6) (by omega), o14 (b + 6) (by omega), o13 (b + 6) (by omega), o12 (b + 6) (by omega) (by omega), o11 (b + 6) (by omega) (by omega), o10 (b + 6) (by omega), o9 (b + 6) (by omega), o8 (b + 6) (by omega), o7 (b + 6) (by omega), e6, kCp_eq, cpyS i hi, s5 (b2 + 6) (by omega)]
  · show h17 (b + 7) i = h (b2 + 7) i
    rw [o17 (b + 7) (by omega), o16 (b + 7) (by omega), o15 (b + 7) (by omega), o14 (b + 7) (by omega), o13 (b + 7) (by omega), o12 (b + 7) (by omega) (by omega), o11 (b + 7) (by omega) (by omega), o10 (b + 7) (by omega), o9 (b + 7) (by omega), o8 (b + 7) (by omega), e7, kCp_eq, cpyS i hi, s6 (b2 + 7) (by omega)]
  · show h17 (b + 8) i = h (b2 + 8) i
    rw [o17 (b + 8) (by omega), o16 (b + 8) (by omega), o15 (b + 8) (by omega), o14 (b + 8) (by omega), o13 (b + 8) (by omega), o12 (b + 8) (by omega) (by omega), o11 (b + 8) (by omega) (by omega), o10 (b + 8) (by omega), o9 (b + 8) (by omega), e8, kCp_eq, cpyS i hi, s7 (b2 + 8) (by omega)]
  · show h17 (b + 9) i = h (b2 + 9) i
    rw [o17 (b + 9) (by omega), o16 (b + 9) (by omega), o15 (b + 9) (by omega), o14 (b + 9) (by omega), o13 (b + 9) (by omega), o12 (b + 9) (by omega) (by omega), o11 (b + 9) (by omega) (by omega), o10 (b + 9) (by omega), e9, kCp_eq, cpyS i hi, s8 (b2 + 9) (by omega)]
  · show h17 (b + 10) i = h (b2 + 10) i
    rw [o17 (b + 10) (by omega), o16 (b + 10) (by omega), o15 (b + 10) (by omega), o14 (b + 10) (by omega), o13 (b + 10) (by omega), o12 (b + 10) (by omega) (by omega), o11 (b + 10) (by omega) (by omega), e10, kCp_eq, cpyS i hi, s9 (b2 + 10) (by omega)]
  · show h17 (b + 11) 2 = h (b2 + 11) 2
    rw [o17 (b + 11) (by omega), o16 (b + 11) (by omega), o15 (b + 11) (by omega), o14 (b + 11) (by omega), o13 (b + 11) (by omega), o12 (b + 11) (by omega) (by omega), e11]
    unfold kTxtCp
    rw [kU_eq, pk_us, s10 (b2 + 11) (by omega)]
  · show h17 (b + 12) i = h (b2 + 12) i
    rw [o17 (b + 12) (by omega), o16 (b + 12) (by omega), o15 (b + 12) (by omega), o14 (b + 12) (by omega), o13 (b + 12) (by omega), o12 (b + 12) (by omega) (by omega), e11]
    unfold kTxtCp
    rw [kU_ne (by omega), show b + 12 = b + 11 + 1 by omega, kCp_eq, cpyS i hi, show b2 + 11 + 1 = b2 + 12 by omega, s10 (b2 + 12) (by omega)]
  · show h17 (b + 14) 2 = h (b2 + 14) 2
    rw [o17 (b + 14) (by omega), o16 (b + 14) (by omega), o15 (b + 14) (by omega), o14 (b + 14) (by omega), o13 (b + 14) (by omega), e12]
    unfold kTxtCp
    rw [kU_eq, pk_us, s11 (b2 + 14) (by omega)]
  · show h17 (b + 15) i = h (b2 + 15) i
    rw [o17 (b + 15) (by omega), o16 (b + 15) (by omega), o15 (b + 15) (by omega), o14 (b + 15) (by omega), o13 (b + 15) (by omega), e12]
    unfold kTxtCp
    rw [kU_ne (by omega), show b + 15 = b + 14 + 1 by omega, kCp_eq, cpyS i hi, show b2 + 14 + 1 = b2 + 15 by omega, s11 (b2 + 15) (by omega)]
theorem st_image (hd : 4 ≤ d) (hR : kRel h) : kStp G d m_X7_image m_X8_image [] h := by
  have hR2 := id hR
  obtain ⟨n, H, f, w, hS, hH⟩ := hR.n
  obtain ⟨r1, r2, r3, r4, r5, r6⟩ := hR
  refine cg_X7_image hd (sp_X2_become (d := d - 1) (by omega) kSea_is18 kSea_is1 (by omega) (fun h1 o1 c1 h2 e2 => ?_))
  refine cg_X8_image (by omega) ⟨by decide, fun h3 e3 h4 e4 => ?_⟩
  have o2 : ∀ a, ¬ (18 ≤ a ∧ a ≤ 34) → a ≠ 0 → h2 a = h a := fun a x y => by rw [e2, kU_ne y, o1 a (by omega)]
  have o4 : ∀ a, a ≠ 88 → a ≠ 90 → h4 a = h2 a := fun a x y => by rw [e4, kU_ne x, e3, kCp_ne y]
  have oo : ∀ a, ¬ (18 ≤ a ∧ a ≤ 34) → a ≠ 0 → a ≠ 88 → a ≠ 90 → h4 a = h a := fun a x y z u => by rw [o4 a z u, o2 a x y]
  have i0 : h2 0 2 = h 0 2 + 1 := by rw [e2, kU_eq, pk_us, o1 0 (by decide)]
  have k0 : h4 0 2 = h 0 2 + 1 := by rw [o4 0 (by decide) (by decide), i0]
  have k88 : h4 88 4 = h 88 4 + 1 := by rw [e4, kU_eq, pk_us, e3, kCp_ne (by decide), o2 88 (by decide) (by decide)]
  have j88 : ∀ s, s ≠ 4 → h4 88 s = h 88 s := fun s hs => by rw [e4, kU_eq, pk_un hs, e3, kCp_ne (by decide), o2 88 (by decide) (by decide)]
  have k90 : ∀ j, j < 481 → h4 90 j = h 89 j := fun j hj => by rw [e4, kU_ne (by decide), e3, kCp_eq, cpyS j hj, o2 89 (by decide) (by decide)]
  have kc : kCopied (kVw h 1) (kVw h4 18) := by
    have e : ∀ a, a ≤ 16 → kVw h4 18 a = kVw h1 18 a := fun a ha => by
      show h4 (18 + a) = h1 (18 + a)
      rw [o4 _ (by omega) (by omega), e2, kU_ne (by omega)]
    unfold kCopied at c1 ⊢
    rw [e 0 (by decide), e 1 (by decide), e 2 (by decide), e 3 (by decide), e 4 (by decide), e 5 (by decide), e 6 (by decide), e 7 (by decide), e 8 (by decide), e 9 (by decide), e 10 (by decide), e 11 (by decide), e 12 (by decide), e 14 (by decide), e 15 (by decide)]
    exact c1
  refine ⟨by rw [i0, k88, r3], r1.congr (fun a x y => oo (1 + a) (by omega) (by omega) (by omega) (by omega)) (oo 89 (by decide) (by decide) (by decide) (by decide)), fun _ => ⟨n, H, f, w, hS.copy kc k90, hH⟩, by rw [k0, k88, r3], fun i hi => ?_, ?_, fun s hs => ?_⟩
  · rw [oo 87 (by decide) (by decide) (by decide) (by decide), oo 93 (by decide) (by decide) (by decide) (by decide)]
    exact r4 i hi
  · unfold kTrR at *
    rw [oo 76 (by decide) (by decide) (by decide) (by decide), j88 17 (by decide), oo 77 (by decide) (by decide) (by decide) (by decide), oo 97 (by decide) (by decide) (by decide) (by decide)]
    exact r5
  · exact (r6 s hs).congr (oo _ (by omega) (by omega) (by omega) (by omega)) (oo _ (by omega) (by omega) (by omega) (by omega)) (by rw [oo 98 (by decide) (by decide) (by decide) (by decide)]) (by rw [oo 99 (by decide) (by decide) (by decide) (by decide)]) (fun i hi => by rw [oo 100 (by decide) (by decide) (by decide) (by decide)])
theorem st_restore (hd : 4 ≤ d) (hR : kRel h) : kStp G d m_X7_restore m_X8_restore [] h := by
  have r2 := hR.2.1
  have r3 := hR.2.2.1
  by_cases hz : h 0 2 = 0
  · refine cg_X7_restore hd ⟨fun z => absurd hz z, fun _ => ⟨kin7 (n := 2) (by decide), fun h1 e1 => ?_⟩⟩
    have x0 : h1 88 4 = 0 := by rw [e1, kErr_ne (by decide), ← r3]; exact hz
    exact cg_X8_restore (by omega) ⟨fun z => absurd x0 z, fun _ => ⟨kin7 (n := 2) (by decide), kErrs hR h1 e1⟩⟩
  · obtain ⟨n, H, f, w, hS, hH⟩ := r2 hz
    refine cg_X7_restore hd ⟨fun _ => sp_X2_become (d := d - 1) (by omega) kSea_is1 kSea_is18 (by omega) (fun h1 o1 c1 => ?_), fun z => absurd z hz⟩
    have x0 : ¬ h1 88 4 = 0 := by rw [o1 88 (by decide), ← r3]; exact hz
    refine cg_X8_restore (by omega) ⟨fun _ => ⟨by decide, fun h2 e2 => ?_⟩, fun z => absurd z x0⟩
    have o2 : ∀ a, a ≠ 89 → h2 a = h1 a := fun a x => by rw [e2, kCp_ne x]
    have k89 : ∀ j, j < 481 → h2 89 j = h 90 j := fun j hj => by rw [e2, kCp_eq, cpyS j hj, o1 90 (by decide)]
    have kc : kCopied (kVw h 18) (kVw h2 1) := by
      have e : ∀ a, a ≤ 16 → kVw h2 1 a = kVw h1 1 a := fun a ha => o2 (1 + a) (by omega)
      unfold kCopied at c1 ⊢
      rw [e 0 (by decide), e 1 (by decide), e 2 (by decide), e 3 (by decide), e 4 (by decide), e 5 (by decide), e 6 (by decide), e 7 (by decide), e 8 (by decide), e 9 (by decide), e 10 (by decide), e 11 (by decide), e 12 (by decide), e 14 (by decide), e 15 (by decide)]
      exact c1
    have hS2 := hS.copy kc k89
    refine ⟨?_, hR.now (fun a x y => by rw [o2 a x, o1 a (by omega)]) ⟨n, H, f, w, hS2, hH⟩⟩
    have a1 : h2 1 13 = nI H := hS2.2.1.2.1
    rw [hS2.2.1.2.2, ← a1, o2 1 (by decide)]
end Keep

