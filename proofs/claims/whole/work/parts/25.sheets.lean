/-! Sheets: their numbers in both -/
section Sheets
variable {G : kG} {d : Nat} {Q : Int32 → kM → Prop} {h : kM}
theorem kb8 (x : BitVec 32) : ((x <<< 24).sshiftRight 24).toInt = if x.toNat % 256 < 128 then ((x.toNat % 256 : Nat) : Int) else ((x.toNat % 256 : Nat) : Int) - 256 := by
  rw [BitVec.toInt_sshiftRight, BitVec.toInt_eq_toNat_cond, BitVec.toNat_shiftLeft, Nat.shiftLeft_eq, Int.shiftRight_eq_div_pow]
  have e : x.toNat * 2 ^ 24 % 2 ^ 32 = (x.toNat % 256) * 2 ^ 24 := by omega
  rw [e]
  by_cases q : x.toNat % 256 < 128
  · rw [if_pos q, if_pos (by omega)]
    omega
  · rw [if_neg q, if_neg (by omega)]
    omega
theorem kb16 (x : BitVec 32) : ((x <<< 16).sshiftRight 16).toInt = if x.toNat % 65536 < 32768 then ((x.toNat % 65536 : Nat) : Int) else ((x.toNat % 65536 : Nat) : Int) - 65536 := by
  rw [BitVec.toInt_sshiftRight, BitVec.toInt_eq_toNat_cond, BitVec.toNat_shiftLeft, Nat.shiftLeft_eq, Int.shiftRight_eq_div_pow]
  have e : x.toNat * 2 ^ 16 % 2 ^ 32 = (x.toNat % 65536) * 2 ^ 16 := by omega
  rw [e]
  by_cases q : x.toNat % 65536 < 32768
  · rw [if_pos q, if_pos (by omega)]
    omega
  · rw [if_neg q, if_neg (by omega)]
    omega
theorem kMM_8 (v : Int32) : (kMM 8 v).toInt = if v.toBitVec.toNat % 256 < 128 then ((v.toBitVec.toNat % 256 : Nat) : Int) else ((v.toBitVec.toNat % 256 : Nat) : Int) - 256 := by
  unfold kMM
  rw [show ((32 : Int32) - 8) &&& 31 = 24 by decide]
  show ((v <<< 24) >>> 24).toBitVec.toInt = _
  rw [Int32.toBitVec_shiftRight, Int32.toBitVec_shiftLeft]
  exact kb8 _
theorem kMM_16 (v : Int32) : (kMM 16 v).toInt = if v.toBitVec.toNat % 65536 < 32768 then ((v.toBitVec.toNat % 65536 : Nat) : Int) else ((v.toBitVec.toNat % 65536 : Nat) : Int) - 65536 := by
  unfold kMM
  rw [show ((32 : Int32) - 16) &&& 31 = 16 by decide]
  show ((v <<< 16) >>> 16).toBitVec.toInt = _
  rw [Int32.toBitVec_shiftRight, Int32.toBitVec_shiftLeft]
  exact kb16 _
theorem kMC_8 (v : Int32) : (kMC 8 v).toInt = ((v.toBitVec.toNat % 256 : Nat) : Int) := by
  unfold kMC
  rw [if_neg (by decide), show ((1 : Int32) <<< (8 &&& 31)) - 1 = 255 by decide]
  show (v &&& 255).toBitVec.toInt = _
  have e : (v &&& 255).toBitVec.toNat = v.toBitVec.toNat % 256 := by
    rw [Int32.toBitVec_and, BitVec.toNat_and]
    exact Nat.and_two_pow_sub_one_eq_mod _ 8
  rw [BitVec.toInt_eq_toNat_cond, e, if_pos (by omega)]
theorem kMC_16 (v : Int32) : (kMC 16 v).toInt = ((v.toBitVec.toNat % 65536 : Nat) : Int) := by
  unfold kMC
  rw [if_neg (by decide), show ((1 : Int32) <<< (16 &&& 31)) - 1 = 65535 by decide]
  show (v &&& 65535).toBitVec.toInt = _
  have e : (v &&& 65535).toBitVec.toNat = v.toBitVec.toNat % 65536 := by
    rw [Int32.toBitVec_and, BitVec.toNat_and]
    exact Nat.and_two_pow_sub_one_eq_mod _ 16
  rw [BitVec.toInt_eq_toNat_cond, e, if_pos (by omega)]
/-- a small number is told alike -/
theorem kMC_MM {b : Int32} (hb : b = 8 ∨ b = 16 ∨ b = 32) {c : Nat} (hc : c < 64) (v : Int32) : kMC b v = nI c ↔ kMM b v = nI c := by
  rcases hb with rfl | rfl | rfl
  · rw [← Int32.toInt_inj, ← Int32.toInt_inj, kMC_8, kMM_8, nI_toInt (by omega)]
    split <;> omega
  · rw [← Int32.toInt_inj, ← Int32.toInt_inj, kMC_16, kMM_16, nI_toInt (by omega)]
    split <;> omega
  · have e1 : kMC 32 v = v := by unfold kMC; rw [if_pos rfl]
    have e2 : kMM 32 v = v := by
      unfold kMM
      rw [show ((32 : Int32) - 32) &&& 31 = 0 by decide]
      apply Int32.toBitVec_inj.mp
      rw [Int32.toBitVec_shiftRight, Int32.toBitVec_shiftLeft]
      show (v.toBitVec <<< 0).sshiftRight 0 = v.toBitVec
      rw [BitVec.shiftLeft_zero, BitVec.sshiftRight_zero]
    rw [e1, e2]
theorem kMC_0 {b : Int32} (hb : b = 0 ∨ b = 8 ∨ b = 16 ∨ b = 32) : kMC b 0 = 0 ∧ kMM b 0 = 0 := by
  rcases hb with rfl | rfl | rfl | rfl <;> decide
/-- only Sheets differ -/
theorem kRel.sheets {h h' : kM} (hR : kRel h) (ho : ∀ a, (a < 79 ∨ 86 < a) → a ≠ 98 → a ≠ 99 → a ≠ 100 → ¬ kScr a → h' a = h a) (hs : ∀ s, s < 4 → kShR h' s) : kRel h' := by
  have hq : ∀ a, (a < 79 ∨ 86 < a) → a ≠ 98 → a ≠ 99 → a ≠ 100 → ¬ (a = 14 ∨ a = 17 ∨ a = 31 ∨ a = 34 ∨ (35 ≤ a ∧ a ≤ 75) ∨ a = 78 ∨ a = 91 ∨ a = 92 ∨ a = 94 ∨ a = 95 ∨ a = 96 ∨ 101 ≤ a) → h' a = h a := ho
  obtain ⟨r1, r2, r3, r4, r5, -⟩ := hR
  refine ⟨r1.congr (fun a h1 h2 => hq (1 + a) (by omega) (by omega) (by omega) (by omega) (by omega)) (hq 89 (by omega) (by omega) (by omega) (by omega) (by omega)), fun q => ?_, ?_, ?_, ?_, hs⟩
  · rw [hq 0 (by omega) (by omega) (by omega) (by omega) (by omega)] at q
    exact (r2 q).congr (fun a h1 h2 => hq (18 + a) (by omega) (by omega) (by omega) (by omega) (by omega)) (hq 90 (by omega) (by omega) (by omega) (by omega) (by omega))
  · rw [hq 0 (by omega) (by omega) (by omega) (by omega) (by omega), hq 88 (by omega) (by omega) (by omega) (by omega) (by omega)]
    exact r3
  · intro i hi
    rw [hq 87 (by omega) (by omega) (by omega) (by omega) (by omega), hq 93 (by omega) (by omega) (by omega) (by omega) (by omega)]
    exact r4 i hi
  · unfold kTrR at *
    rw [hq 76 (by omega) (by omega) (by omega) (by omega) (by omega), hq 88 (by omega) (by omega) (by omega) (by omega) (by omega), hq 77 (by omega) (by omega) (by omega) (by omega) (by omega), hq 97 (by omega) (by omega) (by omega) (by omega) (by omega)]
    exact r5
theorem kShR.congr {h h' : kM} {s : Nat} (r : kShR h s) (e1 : h' (79 + 2 * s) = h (79 + 2 * s)) (e2 : h' (80 + 2 * s) = h (80 + 2 * s)) (e3 : h' 98 s = h 98 s) (e4 : h' 99 s = h 99 s) (e5 : ∀ i, i < 24 → h' 100 (24 * s + i) = h 100 (24 * s + i)) : kShR h' s := by
  obtain ⟨⟨n, r1, r2, r3⟩, r4, r5, r6⟩ := r
  refine ⟨⟨n, r1, by rw [e1]; exact r2, by rw [e4]; exact r3⟩, by rw [e1, e3]; exact r4, by rw [e3]; exact r5, fun i hi => ?_⟩
  obtain ⟨v, v1, v2⟩ := r6 i hi
  exact ⟨v, by rw [e2, e3]; exact v1, by rw [e5 i hi, e3]; exact v2⟩
def at_X4_begin_18 (G : kG) (d : Nat) (Q : Int32 → kM → Prop) (q : Nat) (v1 : Int32) (v2 : Int32) (v3 : Int32) (h : kM) : Prop := Wp G d m_X4_begin (kEo G d m_X4_begin Q) 18 [.ref q, .int v1, .int v2, .int v3] [] h
theorem sg_X4_begin_0 {G : kG} {d : Nat} {Q : Int32 → kM → Prop} {q : Nat} {a1 : Int32} {a2 : Int32} {h : kM} (hd : 2 ≤ d) (k_q : kSht q) (H :
    ∀ h1 : kM, h1 = kU h q 1 a1 →
    ∀ h2 : kM, h2 = kU h1 q 2 (kHeld a2 (0 : Int32) (24 : Int32)) →
    at_X4_begin_18 G d Q q a1 a2 (0 : Int32) h2) : Wp G d m_X4_begin (kEo G d m_X4_begin Q) 0 [.ref q, .int a1, .int a2, .null] [] h := by
  refine wp_aload_n 1 dX4_begin_0 rfl rfl ?_
  refine wp_iload_n 2 dX4_begin_1 rfl rfl ?_
  refine wp_putI 5 dX4_begin_2 rfl fl_X4_15 fin_4_1 (kSht_0 k_q) rfl ?_
  refine wp_nm (fun h1 eh1 => ?_)
  replace H := H h1 eh1
  refine wp_aload_n 6 dX4_begin_5 rfl rfl ?_
  refine wp_iload_n 7 dX4_begin_6 rfl rfl ?_
  refine wp_iconst (0 : Int32) 8 dX4_begin_7 kiconst_0 rfl ?_
  refine wp_bipush (24 : Int32) 10 dX4_begin_8 kbipush_24 rfl ?_
  refine wp_cN (d - 1) 3 [.int a2, .int (0 : Int32), .int (24 : Int32)] [.ref q] 13 dX4_begin_10 rfl (lk_X4_19 rfl) (by omega) rfl rfl (Nat.le_of_ble_eq_true rfl) (sp_X7_held (by omega)  ?_)
  refine wp_putI 16 dX4_begin_13 rfl fl_X4_23 fin_4_2 (kSht_0 k_q) rfl ?_
  refine wp_nm (fun h2 eh2 => ?_)
  replace H := H h2 eh2
  refine wp_iconst (0 : Int32) 17 dX4_begin_16 kiconst_0 rfl ?_
  refine wp_istore_n 18 dX4_begin_17 rfl (Nat.le_of_ble_eq_true rfl) rfl ?_
  exact H

theorem cg_X4_begin {G : kG} {d : Nat} {Q : Int32 → kM → Prop} {q : Nat} {a1 : Int32} {a2 : Int32} {h : kM} (hd : 2 ≤ d) (k_q : kSht q) (H :
    ∀ h1 : kM, h1 = kU h q 1 a1 →
    ∀ h2 : kM, h2 = kU h1 q 2 (kHeld a2 (0 : Int32) (24 : Int32)) →
    at_X4_begin_18 G d Q q a1 a2 (0 : Int32) h2) : Cal G d m_X4_begin [.ref q, .int a1, .int a2] h Q :=
  Cal.of [.ref q, .int a1, .int a2, .null] (by decide +kernel) (Nat.le_of_ble_eq_true rfl) rfl (sg_X4_begin_0 hd k_q H)

theorem sg_X4_begin_18 {G : kG} {d : Nat} {Q : Int32 → kM → Prop} {q : Nat} {v1 : Int32} {v2 : Int32} {v3 : Int32} {h : kM} (hd : 2 ≤ d) (k_q : kSht q) (H :
    (((24 : Int32) ≤ v3 →
      Q 0 h
    ) ∧ (¬ ((24 : Int32) ≤ v3) →
      (vp_in v3 24) ∧
      ∀ h3 : kM, h3 = kU h (q + 1) (v3).toNatClampNeg (0 : Int32) →
      at_X4_begin_18 G d Q q v1 v2 (v3 + (1 : Int32)) h3
    ))) : at_X4_begin_18 G d Q q v1 v2 v3 h := by
  show Wp G d m_X4_begin (kEo G d m_X4_begin Q) 18 [.ref q, .int v1, .int v2, .int v3] [] h
  refine wp_iload_n 19 dX4_begin_18 rfl rfl ?_
  refine wp_bipush (24 : Int32) 21 dX4_begin_19 kbipush_24 rfl ?_
  refine wp_icmp_ge 37 24 dX4_begin_21 rfl rfl ⟨fun c1 => ?_, fun c1 => ?_⟩
  · replace H := H.1 c1
    exact wp_retv dX4_begin_37 rfl H
  · replace H := H.2 c1
    refine wp_aload_n 25 dX4_begin_24 rfl rfl ?_
    refine wp_getR 1 (q + 1) 28 dX4_begin_25 rfl fl_X4_9 (kSht_0 k_q) rfl rfl rfl rfl ?_
    refine wp_iload_n 29 dX4_begin_28 rfl rfl ?_
    refine wp_iconst (0 : Int32) 30 dX4_begin_29 kiconst_0 rfl ?_
    have c2 := H.1; replace H := H.2
    refine wp_iast 31 dX4_begin_30 rfl (kSht_1 k_q) c2 ?_
    refine wp_nm (fun h3 eh3 => ?_)
    replace H := H h3 eh3
    refine wp_iinc (1 : Int32) 34 dX4_begin_31 rfl rfl kiconst_1 (Nat.le_of_ble_eq_true rfl) rfl ?_
    refine wp_goto 18 dX4_begin_34 rfl ?_
    exact H

theorem lp_begin (hd : 2 ≤ d) {q : Nat} (kq : kSht q) {a b : Int32} (kk : ∀ h1, (∀ c, c ≠ q + 1 → h1 c = h c) → (∀ j, j < 24 → h1 (q + 1) j = 0) → Q 0 h1) : ∀ (m i : Nat) (h1 : kM), i + m = 24 → (∀ c, c ≠ q + 1 → h1 c = h c) → (∀ j, j < i → h1 (q + 1) j = 0) → at_X4_begin_18 G d Q q a b (nI i) h1 := by
  intro m
  induction m with
  | zero =>
    intro i h1 hi ho hz
    have hi2 : i = 24 := by omega
    subst hi2
    exact sg_X4_begin_18 hd kq ⟨fun _ => kk h1 ho hz, fun z => absurd (nI_le (Nat.le_refl 24) (by decide)) z⟩
  | succ m ih =>
    intro i h1 hi ho hz
    refine sg_X4_begin_18 hd kq ⟨fun z => absurd z (ltn (nI_lt (b := 24) (by omega) (by decide))), fun _ => ⟨vp_in_nI (by omega) (by decide), fun h2 e2 => ?_⟩⟩
    rw [nI_clamp (by omega)] at e2
    rw [nI_1]
    refine ih (i + 1) h2 (by omega) (fun c hc => by rw [e2, kU_ne hc, ho c hc]) (fun j hj => ?_)
    rw [e2, kU_eq]
    by_cases e : j = i
    · rw [e, pk_us]
    · rw [pk_un e]
      exact hz j (by omega)
theorem sp_X4_begin (hd : 2 ≤ d) {q : Nat} (kq : kSht q) {a b : Int32} (kk : ∀ h1, (∀ c, c ≠ q → c ≠ q + 1 → h1 c = h c) → h1 q 1 = a → h1 q 2 = kHeld b 0 24 → (∀ j, j < 24 → h1 (q + 1) j = 0) → Q 0 h1) : Cal G d m_X4_begin [.ref q, .int a, .int b] h Q := by
  refine cg_X4_begin hd kq (fun h1 e1 h2 e2 => lp_begin hd kq (h := h2) (fun h3 ho hz => kk h3 (fun c c1 c2 => by rw [ho c c2, e2, kU_ne c1, e1, kU_ne c1]) ?_ ?_ hz) 24 0 h2 (by omega) (fun _ _ => rfl) (fun j hj => absurd hj (Nat.not_lt_zero j)))
  · rw [ho q (by omega), e2, kU_eq, pk_un (by decide), e1, kU_eq, pk_us]
  · rw [ho q (by omega), e2, kU_eq, pk_us]
theorem sg_X7_sheet_0 {G : kG} {d : Nat} {Q : Int32 → kM → Prop}  {a1 : Int32} {a2 : Int32} {a3 : Int32} {h : kM} (hd : 3 ≤ d)  (H :
    (((kb (0 ≤ a1 ∧ a1 < (4 : Int32))) = 0 →
      (vp_in (1 : Int32) 7) ∧
      ∀ h3 : kM, h3 = kErr h 87 (1 : Int32) →
      Q (-1000000000 - (1 : Int32)) h3
    ) ∧ (¬ ((kb (0 ≤ a1 ∧ a1 < (4 : Int32))) = 0) →
      ((a2 = 0 →
        (vp_in a1 4) ∧
        ∀ q8 : Nat, q8 = 79 + 2 * (a1).toNatClampNeg → kSht q8 →
        Cal G (d - 1) m_X4_begin [.ref q8, .int a2, .int (0 : Int32)] h (fun x10 h11 =>
          Q (1 : Int32) h11
        )
      ) ∧ (¬ (a2 = 0) →
        ((a2 = (8 : Int32) →
          ((0 ≤ a3 →
            ((a3 ≤ (24 : Int32) →
              (vp_in a1 4) ∧
              ∀ q18 : Nat, q18 = 79 + 2 * (a1).toNatClampNeg → kSht q18 →
              Cal G (d - 1) m_X4_begin [.ref q18, .int a2, .int a3] h (fun x20 h21 =>
                Q (1 : Int32) h21
              )
            ) ∧ (¬ (a3 ≤ (24 : Int32)) →
              (vp_in (1 : Int32) 7) ∧
              ∀ h23 : kM, h23 = kErr h 87 (1 : Int32) →
              Q (-1000000000 - (1 : Int32)) h23
            ))
          ) ∧ (¬ (0 ≤ a3) →
            (vp_in (3 : Int32) 7) ∧
            ∀ h25 : kM, h25 = kErr h 87 (3 : Int32) →
            Q (-1000000000 - (3 : Int32)) h25
          ))
        ) ∧ (¬ (a2 = (8 : Int32)) →
          ((a2 = (16 : Int32) →
            ((0 ≤ a3 →
              ((a3 ≤ (24 : Int32) →
                (vp_in a1 4) ∧
                ∀ q32 : Nat, q32 = 79 + 2 * (a1).toNatClampNeg → kSht q32 →
                Cal G (d - 1) m_X4_begin [.ref q32, .int a2, .int a3] h (fun x34 h35 =>
                  Q (1 : Int32) h35
                )
              ) ∧ (¬ (a3 ≤ (24 : Int32)) →
                (vp_in (1 : Int32) 7) ∧
                ∀ h37 : kM, h37 = kErr h 87 (1 : Int32) →
                Q (-1000000000 - (1 : Int32)) h37
              ))
            ) ∧ (¬ (0 ≤ a3) →
              (vp_in (3 : Int32) 7) ∧
              ∀ h39 : kM, h39 = kErr h 87 (3 : Int32) →
              Q (-1000000000 - (3 : Int32)) h39
            ))
          ) ∧ (¬ (a2 = (16 : Int32)) →
            ((a2 = (32 : Int32) →
              ((0 ≤ a3 →
                ((a3 ≤ (24 : Int32) →
                  (vp_in a1 4) ∧
                  ∀ q46 : Nat, q46 = 79 + 2 * (a1).toNatClampNeg → kSht q46 →
                  Cal G (d - 1) m_X4_begin [.ref q46, .int a2, .int a3] h (fun x48 h49 =>
                    Q (1 : Int32) h49
                  )
                ) ∧ (¬ (a3 ≤ (24 : Int32)) →
                  (vp_in (1 : Int32) 7) ∧
                  ∀ h51 : kM, h51 = kErr h 87 (1 : Int32) →
                  Q (-1000000000 - (1 : Int32)) h51
                ))
              ) ∧ (¬ (0 ≤ a3) →
                (vp_in (3 : Int32) 7) ∧
                ∀ h53 : kM, h53 = kErr h 87 (3 : Int32) →
                Q (-1000000000 - (3 : Int32)) h53
              ))
            ) ∧ (¬ (a2 = (32 : Int32)) →
              (vp_in (1 : Int32) 7) ∧
              ∀ h55 : kM, h55 = kErr h 87 (1 : Int32) →
              Q (-1000000000 - (1 : Int32)) h55
            ))
          ))
        ))
      ))
    ))) : Wp G d m_X7_sheet (kEo G d m_X7_sheet Q) 0 [.ref 0, .int a1, .int a2, .int a3] [] h := by
  refine wp_iload_n 1 dX7_sheet_0 rfl rfl ?_
  refine wp_iconst (4 : Int32) 2 dX7_sheet_1 kiconst_4 rfl ?_
  refine wp_cS (d - 1) 2 [.int a1, .int (4 : Int32)] [] 5 dX7_sheet_2 rfl (lk_X7_58 rfl) (by omega) rfl rfl (Nat.le_of_ble_eq_true rfl) (sp_X7_within (by omega)  ?_)
  refine wp_if_eq 30 8 dX7_sheet_5 rfl rfl ⟨fun c1 => ?_, fun c1 => ?_⟩
  · replace H := H.1 c1
    refine wp_aload_n 31 dX7_sheet_30 rfl rfl ?_
    refine wp_iconst (1 : Int32) 32 dX7_sheet_31 kiconst_1 rfl ?_
    have c2 := H.1; replace H := H.2
    refine wp_cV (d - 1) 1 [.int (1 : Int32)] [] 35 dX7_sheet_32 rfl (lk_X7_62 rfl) (by omega) kd_0 rfl rfl rfl (Nat.le_of_ble_eq_true rfl) (sp_X7_error (by omega) c2 (fun h3 eh3 => ?_))
    replace H := H h3 eh3
    exact wp_reti dX7_sheet_35 rfl H
  · replace H := H.2 c1
    refine wp_iload_n 9 dX7_sheet_8 rfl rfl ?_
    refine wp_if_eq 36 12 dX7_sheet_9 rfl rfl ⟨fun c4 => ?_, fun c4 => ?_⟩
    · replace H := H.1 c4
      refine wp_iload_n 37 dX7_sheet_36 rfl rfl ?_
      refine wp_if_eq 50 40 dX7_sheet_37 rfl rfl ⟨fun c5 => ?_, fun c5 => absurd c4 c5⟩
      refine wp_iload_n 51 dX7_sheet_50 rfl rfl ?_
      refine wp_if_eq 66 54 dX7_sheet_51 rfl rfl ⟨fun c6 => ?_, fun c6 => absurd c4 c6⟩
      refine wp_aload_n 67 dX7_sheet_66 rfl rfl ?_
      refine wp_getR 78 78 70 dX7_sheet_67 rfl fl_X7_49 kd_0 rfl rfl rfl rfl ?_
      refine wp_iload_n 71 dX7_sheet_70 rfl rfl ?_
      have c7 := H.1; replace H := H.2
      refine wp_sheet 72 dX7_sheet_71 rfl c7 (fun q8 eq8 k_q8 => ?_)
      replace H := H q8 eq8 k_q8
      refine wp_iload_n 73 dX7_sheet_72 rfl rfl ?_
      refine wp_iload_n 74 dX7_sheet_73 rfl rfl ?_
      refine wp_if_ne 81 77 dX7_sheet_74 rfl rfl ⟨fun c9 => absurd c4 c9, fun c9 => ?_⟩
      refine wp_iconst (0 : Int32) 78 dX7_sheet_77 kiconst_0 rfl ?_
      refine wp_goto 82 dX7_sheet_78 rfl ?_
      refine wp_cV (d - 1) 2 [.int a2, .int (0 : Int32)] [] 85 dX7_sheet_82 rfl (lk_X7_253 rfl) (by omega) (kSht_0 k_q8) rfl rfl rfl (Nat.le_of_ble_eq_true rfl) (H.mono (fun x10 h11 H => ?_))
      refine wp_iconst (1 : Int32) 86 dX7_sheet_85 kiconst_1 rfl ?_
      exact wp_reti dX7_sheet_86 rfl H
    · replace H := H.2 c4
      refine wp_iload_n 13 dX7_sheet_12 rfl rfl ?_
      refine wp_bipush (8 : Int32) 15 dX7_sheet_13 kbipush_8 rfl ?_
      refine wp_icmp_eq 36 18 dX7_sheet_15 rfl rfl ⟨fun c12 => ?_, fun c12 => ?_⟩
      · replace H := H.1 c12
        refine wp_iload_n 37 dX7_sheet_36 rfl rfl ?_
        refine wp_if_eq 50 40 dX7_sheet_37 rfl rfl ⟨fun c13 => absurd c13 c4, fun c13 => ?_⟩
        refine wp_iload_n 41 dX7_sheet_40 rfl rfl ?_
        refine wp_if_ge 50 44 dX7_sheet_41 rfl rfl ⟨fun c14 => ?_, fun c14 => ?_⟩
        · replace H := H.1 c14
          refine wp_iload_n 51 dX7_sheet_50 rfl rfl ?_
          refine wp_if_eq 66 54 dX7_sheet_51 rfl rfl ⟨fun c15 => absurd c15 c4, fun c15 => ?_⟩
          refine wp_iload_n 55 dX7_sheet_54 rfl rfl ?_
          refine wp_bipush (24 : Int32) 57 dX7_sheet_55 kbipush_24 rfl ?_
          refine wp_icmp_le 66 60 dX7_sheet_57 rfl rfl ⟨fun c16 => ?_, fun c16 => ?_⟩
          · replace H := H.1 c16
            refine wp_aload_n 67 dX7_sheet_66 rfl rfl ?_
            refine wp_getR 78 78 70 dX7_sheet_67 rfl fl_X7_49 kd_0 rfl rfl rfl rfl ?_
            refine wp_iload_n 71 dX7_sheet_70 rfl rfl ?_
            have c17 := H.1; replace H := H.2
            refine wp_sheet 72 dX7_sheet_71 rfl c17 (fun q18 eq18 k_q18 => ?_)
            replace H := H q18 eq18 k_q18
            refine wp_iload_n 73 dX7_sheet_72 rfl rfl ?_
            refine wp_iload_n 74 dX7_sheet_73 rfl rfl ?_
            refine wp_if_ne 81 77 dX7_sheet_74 rfl rfl ⟨fun c19 => ?_, fun c19 => absurd c19 c4⟩
            refine wp_iload_n 82 dX7_sheet_81 rfl rfl ?_
            refine wp_cV (d - 1) 2 [.int a2, .int a3] [] 85 dX7_sheet_82 rfl (lk_X7_253 rfl) (by omega) (kSht_0 k_q18) rfl rfl rfl (Nat.le_of_ble_eq_true rfl) (H.mono (fun x20 h21 H => ?_))
            refine wp_iconst (1 : Int32) 86 dX7_sheet_85 kiconst_1 rfl ?_
            exact wp_reti dX7_sheet_86 rfl H
          · replace H := H.2 c16
            refine wp_aload_n 61 dX7_sheet_60 rfl rfl ?_
            refine wp_iconst (1 : Int32) 62 dX7_sheet_61 kiconst_1 rfl ?_
            have c22 := H.1; replace H := H.2
            refine wp_cV (d - 1) 1 [.int (1 : Int32)] [] 65 dX7_sheet_62 rfl (lk_X7_62 rfl) (by omega) kd_0 rfl rfl rfl (Nat.le_of_ble_eq_true rfl) (sp_X7_error (by omega) c22 (fun h23 eh23 => ?_))
            replace H := H h23 eh23
            exact wp_reti dX7_sheet_65 rfl H
        · replace H := H.2 c14
          refine wp_aload_n 45 dX7_sheet_44 rfl rfl ?_
          refine wp_iconst (3 : Int32) 46 dX7_sheet_45 kiconst_3 rfl ?_
          have c24 := H.1; replace H := H.2
          refine wp_cV (d - 1) 1 [.int (3 : Int32)] [] 49 dX7_sheet_46 rfl (lk_X7_62 rfl) (by omega) kd_0 rfl rfl rfl (Nat.le_of_ble_eq_true rfl) (sp_X7_error (by omega) c24 (fun h25 eh25 => ?_))
          replace H := H h25 eh25
          exact wp_reti dX7_sheet_49 rfl H
      · replace H := H.2 c12
        refine wp_iload_n 19 dX7_sheet_18 rfl rfl ?_
        refine wp_bipush (16 : Int32) 21 dX7_sheet_19 kbipush_16 rfl ?_
        refine wp_icmp_eq 36 24 dX7_sheet_21 rfl rfl ⟨fun c26 => ?_, fun c26 => ?_⟩
        · replace H := H.1 c26
          refine wp_iload_n 37 dX7_sheet_36 rfl rfl ?_
          refine wp_if_eq 50 40 dX7_sheet_37 rfl rfl ⟨fun c27 => absurd c27 c4, fun c27 => ?_⟩
          refine wp_iload_n 41 dX7_sheet_40 rfl rfl ?_
          refine wp_if_ge 50 44 dX7_sheet_41 rfl rfl ⟨fun c28 => ?_, fun c28 => ?_⟩
          · replace H := H.1 c28
            refine wp_iload_n 51 dX7_sheet_50 rfl rfl ?_
            refine wp_if_eq 66 54 dX7_sheet_51 rfl rfl ⟨fun c29 => absurd c29 c4, fun c29 => ?_⟩
            refine wp_iload_n 55 dX7_sheet_54 rfl rfl ?_
            refine wp_bipush (24 : Int32) 57 dX7_sheet_55 kbipush_24 rfl ?_
            refine wp_icmp_le 66 60 dX7_sheet_57 rfl rfl ⟨fun c30 => ?_, fun c30 => ?_⟩
            · replace H := H.1 c30
              refine wp_aload_n 67 dX7_sheet_66 rfl rfl ?_
              refine wp_getR 78 78 70 dX7_sheet_67 rfl fl_X7_49 kd_0 rfl rfl rfl rfl ?_
              refine wp_iload_n 71 dX7_sheet_70 rfl rfl ?_
              have c31 := H.1; replace H := H.2
              refine wp_sheet 72 dX7_sheet_71 rfl c31 (fun q32 eq32 k_q32 => ?_)
              replace H := H q32 eq32 k_q32
              refine wp_iload_n 73 dX7_sheet_72 rfl rfl ?_
              refine wp_iload_n 74 dX7_sheet_73 rfl rfl ?_
              refine wp_if_ne 81 77 dX7_sheet_74 rfl rfl ⟨fun c33 => ?_, fun c33 => absurd c33 c4⟩
              refine wp_iload_n 82 dX7_sheet_81 rfl rfl ?_
              refine wp_cV (d - 1) 2 [.int a2, .int a3] [] 85 dX7_sheet_82 rfl (lk_X7_253 rfl) (by omega) (kSht_0 k_q32) rfl rfl rfl (Nat.le_of_ble_eq_true rfl) (H.mono (fun x34 h35 H => ?_))
              refine wp_iconst (1 : Int32) 86 dX7_sheet_85 kiconst_1 rfl ?_
              exact wp_reti dX7_sheet_86 rfl H
            · replace H := H.2 c30
              refine wp_aload_n 61 dX7_sheet_60 rfl rfl ?_
              refine wp_iconst (1 : Int32) 62 dX7_sheet_61 kiconst_1 rfl ?_
              have c36 := H.1; replace H := H.2
              refine wp_cV (d - 1) 1 [.int (1 : Int32)] [] 65 dX7_sheet_62 rfl (lk_X7_62 rfl) (by omega) kd_0 rfl rfl rfl (Nat.le_of_ble_eq_true rfl) (sp_X7_error (by omega) c36 (fun h37 eh37 => ?_))
              replace H := H h37 eh37
              exact wp_reti dX7_sheet_65 rfl H
          · replace H := H.2 c28
            refine wp_aload_n 45 dX7_sheet_44 rfl rfl ?_
            refine wp_iconst (3 : Int32) 46 dX7_sheet_45 kiconst_3 rfl ?_
            have c38 := H.1; replace H := H.2
            refine wp_cV (d - 1) 1 [.int (3 : Int32)] [] 49 dX7_sheet_46 rfl (lk_X7_62 rfl) (by omega) kd_0 rfl rfl rfl (Nat.le_of_ble_eq_true rfl) (sp_X7_error (by omega) c38 (fun h39 eh39 => ?_))
            replace H := H h39 eh39
            exact wp_reti dX7_sheet_49 rfl H
        · replace H := H.2 c26
          refine wp_iload_n 25 dX7_sheet_24 rfl rfl ?_
          refine wp_bipush (32 : Int32) 27 dX7_sheet_25 kbipush_32 rfl ?_
          refine wp_icmp_eq 36 30 dX7_sheet_27 rfl rfl ⟨fun c40 => ?_, fun c40 => ?_⟩
          · replace H := H.1 c40
            refine wp_iload_n 37 dX7_sheet_36 rfl rfl ?_
            refine wp_if_eq 50 40 dX7_sheet_37 rfl rfl ⟨fun c41 => absurd c41 c4, fun c41 => ?_⟩
            refine wp_iload_n 41 dX7_sheet_40 rfl rfl ?_
            refine wp_if_ge 50 44 dX7_sheet_41 rfl rfl ⟨fun c42 => ?_, fun c42 => ?_⟩
            · replace H := H.1 c42
              refine wp_iload_n 51 dX7_sheet_50 rfl rfl ?_
              refine wp_if_eq 66 54 dX7_sheet_51 rfl rfl ⟨fun c43 => absurd c43 c4, fun c43 => ?_⟩
              refine wp_iload_n 55 dX7_sheet_54 rfl rfl ?_
              refine wp_bipush (24 : Int32) 57 dX7_sheet_55 kbipush_24 rfl ?_
              refine wp_icmp_le 66 60 dX7_sheet_57 rfl rfl ⟨fun c44 => ?_, fun c44 => ?_⟩
              · replace H := H.1 c44
                refine wp_aload_n 67 dX7_sheet_66 rfl rfl ?_
                refine wp_getR 78 78 70 dX7_sheet_67 rfl fl_X7_49 kd_0 rfl rfl rfl rfl ?_
                refine wp_iload_n 71 dX7_sheet_70 rfl rfl ?_
                have c45 := H.1; replace H := H.2
                refine wp_sheet 72 dX7_sheet_71 rfl c45 (fun q46 eq46 k_q46 => ?_)
                replace H := H q46 eq46 k_q46
                refine wp_iload_n 73 dX7_sheet_72 rfl rfl ?_
                refine wp_iload_n 74 dX7_sheet_73 rfl rfl ?_
                refine wp_if_ne 81 77 dX7_sheet_74 rfl rfl ⟨fun c47 => ?_, fun c47 => absurd c47 c4⟩
                refine wp_iload_n 82 dX7_sheet_81 rfl rfl ?_
                refine wp_cV (d - 1) 2 [.int a2, .int a3] [] 85 dX7_sheet_82 rfl (lk_X7_253 rfl) (by omega) (kSht_0 k_q46) rfl rfl rfl (Nat.le_of_ble_eq_true rfl) (H.mono (fun x48 h49 H => ?_))
                refine wp_iconst (1 : Int32) 86 dX7_sheet_85 kiconst_1 rfl ?_
                exact wp_reti dX7_sheet_86 rfl H
              · replace H := H.2 c44
                refine wp_aload_n 61 dX7_sheet_60 rfl rfl ?_
                refine wp_iconst (1 : Int32) 62 dX7_sheet_61 kiconst_1 rfl ?_
                have c50 := H.1; replace H := H.2
                refine wp_cV (d - 1) 1 [.int (1 : Int32)] [] 65 dX7_sheet_62 rfl (lk_X7_62 rfl) (by omega) kd_0 rfl rfl rfl (Nat.le_of_ble_eq_true rfl) (sp_X7_error (by omega) c50 (fun h51 eh51 => ?_))
                replace H := H h51 eh51
                exact wp_reti dX7_sheet_65 rfl H
            · replace H := H.2 c42
              refine wp_aload_n 45 dX7_sheet_44 rfl rfl ?_
              refine wp_iconst (3 : Int32) 46 dX7_sheet_45 kiconst_3 rfl ?_
              have c52 := H.1; replace H := H.2
              refine wp_cV (d - 1) 1 [.int (3 : Int32)] [] 49 dX7_sheet_46 rfl (lk_X7_62 rfl) (by omega) kd_0 rfl rfl rfl (Nat.le_of_ble_eq_true rfl) (sp_X7_error (by omega) c52 (fun h53 eh53 => ?_))
              replace H := H h53 eh53
              exact wp_reti dX7_sheet_49 rfl H
          · replace H := H.2 c40
            refine wp_aload_n 31 dX7_sheet_30 rfl rfl ?_
            refine wp_iconst (1 : Int32) 32 dX7_sheet_31 kiconst_1 rfl ?_
            have c54 := H.1; replace H := H.2
            refine wp_cV (d - 1) 1 [.int (1 : Int32)] [] 35 dX7_sheet_32 rfl (lk_X7_62 rfl) (by omega) kd_0 rfl rfl rfl (Nat.le_of_ble_eq_true rfl) (sp_X7_error (by omega) c54 (fun h55 eh55 => ?_))
            replace H := H h55 eh55
            exact wp_reti dX7_sheet_35 rfl H

theorem cg_X7_sheet {G : kG} {d : Nat} {Q : Int32 → kM → Prop}  {a1 : Int32} {a2 : Int32} {a3 : Int32} {h : kM} (hd : 3 ≤ d)  (H :
    (((kb (0 ≤ a1 ∧ a1 < (4 : Int32))) = 0 →
      (vp_in (1 : Int32) 7) ∧
      ∀ h3 : kM, h3 = kErr h 87 (1 : Int32) →
      Q (-1000000000 - (1 : Int32)) h3
    ) ∧ (¬ ((kb (0 ≤ a1 ∧ a1 < (4 : Int32))) = 0) →
      ((a2 = 0 →
        (vp_in a1 4) ∧
        ∀ q8 : Nat, q8 = 79 + 2 * (a1).toNatClampNeg → kSht q8 →
        Cal G (d - 1) m_X4_begin [.ref q8, .int a2, .int (0 : Int32)] h (fun x10 h11 =>
          Q (1 : Int32) h11
        )
      ) ∧ (¬ (a2 = 0) →
        ((a2 = (8 : Int32) →
          ((0 ≤ a3 →
            ((a3 ≤ (24 : Int32) →
              (vp_in a1 4) ∧
              ∀ q18 : Nat, q18 = 79 + 2 * (a1).toNatClampNeg → kSht q18 →
              Cal G (d - 1) m_X4_begin [.ref q18, .int a2, .int a3] h (fun x20 h21 =>
                Q (1 : Int32) h21
              )
            ) ∧ (¬ (a3 ≤ (24 : Int32)) →
              (vp_in (1 : Int32) 7) ∧
              ∀ h23 : kM, h23 = kErr h 87 (1 : Int32) →
              Q (-1000000000 - (1 : Int32)) h23
            ))
          ) ∧ (¬ (0 ≤ a3) →
            (vp_in (3 : Int32) 7) ∧
            ∀ h25 : kM, h25 = kErr h 87 (3 : Int32) →
            Q (-1000000000 - (3 : Int32)) h25
          ))
        ) ∧ (¬ (a2 = (8 : Int32)) →
          ((a2 = (16 : Int32) →
            ((0 ≤ a3 →
              ((a3 ≤ (24 : Int32) →
                (vp_in a1 4) ∧
                ∀ q32 : Nat, q32 = 79 + 2 * (a1).toNatClampNeg → kSht q32 →
                Cal G (d - 1) m_X4_begin [.ref q32, .int a2, .int a3] h (fun x34 h35 =>
                  Q (1 : Int32) h35
                )
              ) ∧ (¬ (a3 ≤ (24 : Int32)) →
                (vp_in (1 : Int32) 7) ∧
                ∀ h37 : kM, h37 = kErr h 87 (1 : Int32) →
                Q (-1000000000 - (1 : Int32)) h37
              ))
            ) ∧ (¬ (0 ≤ a3) →
              (vp_in (3 : Int32) 7) ∧
              ∀ h39 : kM, h39 = kErr h 87 (3 : Int32) →
              Q (-1000000000 - (3 : Int32)) h39
            ))
          ) ∧ (¬ (a2 = (16 : Int32)) →
            ((a2 = (32 : Int32) →
              ((0 ≤ a3 →
                ((a3 ≤ (24 : Int32) →
                  (vp_in a1 4) ∧
                  ∀ q46 : Nat, q46 = 79 + 2 * (a1).toNatClampNeg → kSht q46 →
                  Cal G (d - 1) m_X4_begin [.ref q46, .int a2, .int a3] h (fun x48 h49 =>
                    Q (1 : Int32) h49
                  )
                ) ∧ (¬ (a3 ≤ (24 : Int32)) →
                  (vp_in (1 : Int32) 7) ∧
                  ∀ h51 : kM, h51 = kErr h 87 (1 : Int32) →
                  Q (-1000000000 - (1 : Int32)) h51
                ))
              ) ∧ (¬ (0 ≤ a3) →
                (vp_in (3 : Int32) 7) ∧
                ∀ h53 : kM, h53 = kErr h 87 (3 : Int32) →
                Q (-1000000000 - (3 : Int32)) h53
              ))
            ) ∧ (¬ (a2 = (32 : Int32)) →
              (vp_in (1 : Int32) 7) ∧
              ∀ h55 : kM, h55 = kErr h 87 (1 : Int32) →
              Q (-1000000000 - (1 : Int32)) h55
            ))
          ))
        ))
      ))
    ))) : Cal G d m_X7_sheet [.ref 0, .int a1, .int a2, .int a3] h Q :=
  Cal.of [.ref 0, .int a1, .int a2, .int a3] (by decide +kernel) (Nat.le_of_ble_eq_true rfl) rfl (sg_X7_sheet_0 hd  H)

def at_X8_sheet_90 (G : kG) (d : Nat) (Q : Int32 → kM → Prop)  (v1 : Int32) (v2 : Int32) (v3 : Int32) (v4 : Int32) (h : kM) : Prop := Wp G d m_X8_sheet (kEo G d m_X8_sheet Q) 90 [.ref 88, .int v1, .int v2, .int v3, .int v4] [] h
theorem sg_X8_sheet_0 {G : kG} {d : Nat} {Q : Int32 → kM → Prop}  {a1 : Int32} {a2 : Int32} {a3 : Int32} {h : kM} (hd : 3 ≤ d)  (H :
    (((kb (0 ≤ a1 ∧ a1 ≤ 3)) = 0 →
      (vp_in (1 : Int32) 7) ∧
      ∀ h3 : kM, h3 = kErr h 93 (1 : Int32) →
      Q (-1000000000 - (1 : Int32)) h3
    ) ∧ (¬ ((kb (0 ≤ a1 ∧ a1 ≤ 3)) = 0) →
      ((a2 = 0 →
        (vp_in a1 4) ∧
        ∀ h8 : kM, h8 = kU h 98 (a1).toNatClampNeg a2 →
        (vp_in a1 4) ∧
        ∀ h11 : kM, h11 = kU h8 99 (a1).toNatClampNeg (0 : Int32) →
        at_X8_sheet_90 G d Q a1 a2 a3 (0 : Int32) h11
      ) ∧ (¬ (a2 = 0) →
        ((a2 = (8 : Int32) →
          ((0 ≤ a3 →
            ((a3 ≤ (24 : Int32) →
              (vp_in a1 4) ∧
              ∀ h18 : kM, h18 = kU h 98 (a1).toNatClampNeg a2 →
              (vp_in a1 4) ∧
              ∀ h21 : kM, h21 = kU h18 99 (a1).toNatClampNeg a3 →
              at_X8_sheet_90 G d Q a1 a2 a3 (0 : Int32) h21
            ) ∧ (¬ (a3 ≤ (24 : Int32)) →
              (vp_in (1 : Int32) 7) ∧
              ∀ h23 : kM, h23 = kErr h 93 (1 : Int32) →
              Q (-1000000000 - (1 : Int32)) h23
            ))
          ) ∧ (¬ (0 ≤ a3) →
            (vp_in (3 : Int32) 7) ∧
            ∀ h25 : kM, h25 = kErr h 93 (3 : Int32) →
            Q (-1000000000 - (3 : Int32)) h25
          ))
        ) ∧ (¬ (a2 = (8 : Int32)) →
          ((a2 = (16 : Int32) →
            ((0 ≤ a3 →
              ((a3 ≤ (24 : Int32) →
                (vp_in a1 4) ∧
                ∀ h32 : kM, h32 = kU h 98 (a1).toNatClampNeg a2 →
                (vp_in a1 4) ∧
                ∀ h35 : kM, h35 = kU h32 99 (a1).toNatClampNeg a3 →
                at_X8_sheet_90 G d Q a1 a2 a3 (0 : Int32) h35
              ) ∧ (¬ (a3 ≤ (24 : Int32)) →
                (vp_in (1 : Int32) 7) ∧
                ∀ h37 : kM, h37 = kErr h 93 (1 : Int32) →
                Q (-1000000000 - (1 : Int32)) h37
              ))
            ) ∧ (¬ (0 ≤ a3) →
              (vp_in (3 : Int32) 7) ∧
              ∀ h39 : kM, h39 = kErr h 93 (3 : Int32) →
              Q (-1000000000 - (3 : Int32)) h39
            ))
          ) ∧ (¬ (a2 = (16 : Int32)) →
            ((a2 = (32 : Int32) →
              ((0 ≤ a3 →
                ((a3 ≤ (24 : Int32) →
                  (vp_in a1 4) ∧
                  ∀ h46 : kM, h46 = kU h 98 (a1).toNatClampNeg a2 →
                  (vp_in a1 4) ∧
                  ∀ h49 : kM, h49 = kU h46 99 (a1).toNatClampNeg a3 →
                  at_X8_sheet_90 G d Q a1 a2 a3 (0 : Int32) h49
                ) ∧ (¬ (a3 ≤ (24 : Int32)) →
                  (vp_in (1 : Int32) 7) ∧
                  ∀ h51 : kM, h51 = kErr h 93 (1 : Int32) →
                  Q (-1000000000 - (1 : Int32)) h51
                ))
              ) ∧ (¬ (0 ≤ a3) →
                (vp_in (3 : Int32) 7) ∧
                ∀ h53 : kM, h53 = kErr h 93 (3 : Int32) →
                Q (-1000000000 - (3 : Int32)) h53
              ))
            ) ∧ (¬ (a2 = (32 : Int32)) →
              (vp_in (1 : Int32) 7) ∧
              ∀ h55 : kM, h55 = kErr h 93 (1 : Int32) →
              Q (-1000000000 - (1 : Int32)) h55
            ))
          ))
        ))
      ))
    ))) : Wp G d m_X8_sheet (kEo G d m_X8_sheet Q) 0 [.ref 88, .int a1, .int a2, .int a3, .null] [] h := by
  refine wp_iload_n 1 dX8_sheet_0 rfl rfl ?_
  refine wp_cS (d - 1) 1 [.int a1] [] 4 dX8_sheet_1 rfl (lk_X8_230 rfl) (by omega) rfl rfl (Nat.le_of_ble_eq_true rfl) (sp_X8_isSheet (by omega)  ?_)
  refine wp_if_eq 29 7 dX8_sheet_4 rfl rfl ⟨fun c1 => ?_, fun c1 => ?_⟩
  · replace H := H.1 c1
    refine wp_aload_n 30 dX8_sheet_29 rfl rfl ?_
    refine wp_iconst (1 : Int32) 31 dX8_sheet_30 kiconst_1 rfl ?_
    have c2 := H.1; replace H := H.2
    refine wp_cV (d - 1) 1 [.int (1 : Int32)] [] 34 dX8_sheet_31 rfl (lk_X8_62 rfl) (by omega) kd_88 rfl rfl rfl (Nat.le_of_ble_eq_true rfl) (sp_X8_error (by omega) c2 (fun h3 eh3 => ?_))
    replace H := H h3 eh3
    exact wp_reti dX8_sheet_34 rfl H
  · replace H := H.2 c1
    refine wp_iload_n 8 dX8_sheet_7 rfl rfl ?_
    refine wp_if_eq 35 11 dX8_sheet_8 rfl rfl ⟨fun c4 => ?_, fun c4 => ?_⟩
    · replace H := H.1 c4
      refine wp_iload_n 36 dX8_sheet_35 rfl rfl ?_
      refine wp_if_eq 49 39 dX8_sheet_36 rfl rfl ⟨fun c5 => ?_, fun c5 => absurd c4 c5⟩
      refine wp_iload_n 50 dX8_sheet_49 rfl rfl ?_
      refine wp_if_eq 65 53 dX8_sheet_50 rfl rfl ⟨fun c6 => ?_, fun c6 => absurd c4 c6⟩
      refine wp_aload_n 66 dX8_sheet_65 rfl rfl ?_
      refine wp_getR 10 98 69 dX8_sheet_66 rfl fl_X8_37 kd_88 rfl rfl rfl rfl ?_
      refine wp_iload_n 70 dX8_sheet_69 rfl rfl ?_
      refine wp_iload_n 71 dX8_sheet_70 rfl rfl ?_
      have c7 := H.1; replace H := H.2
      refine wp_iast 72 dX8_sheet_71 rfl kd_98 c7 ?_
      refine wp_nm (fun h8 eh8 => ?_)
      replace H := H h8 eh8
      refine wp_aload_n 73 dX8_sheet_72 rfl rfl ?_
      refine wp_getR 11 99 76 dX8_sheet_73 rfl fl_X8_40 kd_88 rfl rfl rfl rfl ?_
      refine wp_iload_n 77 dX8_sheet_76 rfl rfl ?_
      refine wp_iload_n 78 dX8_sheet_77 rfl rfl ?_
      refine wp_if_ne 85 81 dX8_sheet_78 rfl rfl ⟨fun c9 => absurd c4 c9, fun c9 => ?_⟩
      refine wp_iconst (0 : Int32) 82 dX8_sheet_81 kiconst_0 rfl ?_
      refine wp_goto 86 dX8_sheet_82 rfl ?_
      have c10 := H.1; replace H := H.2
      refine wp_iast 87 dX8_sheet_86 rfl kd_99 c10 ?_
      refine wp_nm (fun h11 eh11 => ?_)
      replace H := H h11 eh11
      refine wp_iconst (0 : Int32) 88 dX8_sheet_87 kiconst_0 rfl ?_
      refine wp_istore 90 dX8_sheet_88 rfl (Nat.le_of_ble_eq_true rfl) rfl ?_
      exact H
    · replace H := H.2 c4
      refine wp_iload_n 12 dX8_sheet_11 rfl rfl ?_
      refine wp_bipush (8 : Int32) 14 dX8_sheet_12 kbipush_8 rfl ?_
      refine wp_icmp_eq 35 17 dX8_sheet_14 rfl rfl ⟨fun c12 => ?_, fun c12 => ?_⟩
      · replace H := H.1 c12
        refine wp_iload_n 36 dX8_sheet_35 rfl rfl ?_
        refine wp_if_eq 49 39 dX8_sheet_36 rfl rfl ⟨fun c13 => absurd c13 c4, fun c13 => ?_⟩
        refine wp_iload_n 40 dX8_sheet_39 rfl rfl ?_
        refine wp_if_ge 49 43 dX8_sheet_40 rfl rfl ⟨fun c14 => ?_, fun c14 => ?_⟩
        · replace H := H.1 c14
          refine wp_iload_n 50 dX8_sheet_49 rfl rfl ?_
          refine wp_if_eq 65 53 dX8_sheet_50 rfl rfl ⟨fun c15 => absurd c15 c4, fun c15 => ?_⟩
          refine wp_iload_n 54 dX8_sheet_53 rfl rfl ?_
          refine wp_bipush (24 : Int32) 56 dX8_sheet_54 kbipush_24 rfl ?_
          refine wp_icmp_le 65 59 dX8_sheet_56 rfl rfl ⟨fun c16 => ?_, fun c16 => ?_⟩
          · replace H := H.1 c16
            refine wp_aload_n 66 dX8_sheet_65 rfl rfl ?_
            refine wp_getR 10 98 69 dX8_sheet_66 rfl fl_X8_37 kd_88 rfl rfl rfl rfl ?_
            refine wp_iload_n 70 dX8_sheet_69 rfl rfl ?_
            refine wp_iload_n 71 dX8_sheet_70 rfl rfl ?_
            have c17 := H.1; replace H := H.2
            refine wp_iast 72 dX8_sheet_71 rfl kd_98 c17 ?_
            refine wp_nm (fun h18 eh18 => ?_)
            replace H := H h18 eh18
            refine wp_aload_n 73 dX8_sheet_72 rfl rfl ?_
            refine wp_getR 11 99 76 dX8_sheet_73 rfl fl_X8_40 kd_88 rfl rfl rfl rfl ?_
            refine wp_iload_n 77 dX8_sheet_76 rfl rfl ?_
            refine wp_iload_n 78 dX8_sheet_77 rfl rfl ?_
            refine wp_if_ne 85 81 dX8_sheet_78 rfl rfl ⟨fun c19 => ?_, fun c19 => absurd c19 c4⟩
            refine wp_iload_n 86 dX8_sheet_85 rfl rfl ?_
            have c20 := H.1; replace H := H.2
            refine wp_iast 87 dX8_sheet_86 rfl kd_99 c20 ?_
            refine wp_nm (fun h21 eh21 => ?_)
            replace H := H h21 eh21
            refine wp_iconst (0 : Int32) 88 dX8_sheet_87 kiconst_0 rfl ?_
            refine wp_istore 90 dX8_sheet_88 rfl (Nat.le_of_ble_eq_true rfl) rfl ?_
            exact H
          · replace H := H.2 c16
            refine wp_aload_n 60 dX8_sheet_59 rfl rfl ?_
            refine wp_iconst (1 : Int32) 61 dX8_sheet_60 kiconst_1 rfl ?_
            have c22 := H.1; replace H := H.2
            refine wp_cV (d - 1) 1 [.int (1 : Int32)] [] 64 dX8_sheet_61 rfl (lk_X8_62 rfl) (by omega) kd_88 rfl rfl rfl (Nat.le_of_ble_eq_true rfl) (sp_X8_error (by omega) c22 (fun h23 eh23 => ?_))
            replace H := H h23 eh23
            exact wp_reti dX8_sheet_64 rfl H
        · replace H := H.2 c14
          refine wp_aload_n 44 dX8_sheet_43 rfl rfl ?_
          refine wp_iconst (3 : Int32) 45 dX8_sheet_44 kiconst_3 rfl ?_
          have c24 := H.1; replace H := H.2
          refine wp_cV (d - 1) 1 [.int (3 : Int32)] [] 48 dX8_sheet_45 rfl (lk_X8_62 rfl) (by omega) kd_88 rfl rfl rfl (Nat.le_of_ble_eq_true rfl) (sp_X8_error (by omega) c24 (fun h25 eh25 => ?_))
          replace H := H h25 eh25
          exact wp_reti dX8_sheet_48 rfl H
      · replace H := H.2 c12
        refine wp_iload_n 18 dX8_sheet_17 rfl rfl ?_
        refine wp_bipush (16 : Int32) 20 dX8_sheet_18 kbipush_16 rfl ?_
        refine wp_icmp_eq 35 23 dX8_sheet_20 rfl rfl ⟨fun c26 => ?_, fun c26 => ?_⟩
        · replace H := H.1 c26
          refine wp_iload_n 36 dX8_sheet_35 rfl rfl ?_
          refine wp_if_eq 49 39 dX8_sheet_36 rfl rfl ⟨fun c27 => absurd c27 c4, fun c27 => ?_⟩
          refine wp_iload_n 40 dX8_sheet_39 rfl rfl ?_
          refine wp_if_ge 49 43 dX8_sheet_40 rfl rfl ⟨fun c28 => ?_, fun c28 => ?_⟩
          · replace H := H.1 c28
            refine wp_iload_n 50 dX8_sheet_49 rfl rfl ?_
            refine wp_if_eq 65 53 dX8_sheet_50 rfl rfl ⟨fun c29 => absurd c29 c4, fun c29 => ?_⟩
            refine wp_iload_n 54 dX8_sheet_53 rfl rfl ?_
            refine wp_bipush (24 : Int32) 56 dX8_sheet_54 kbipush_24 rfl ?_
            refine wp_icmp_le 65 59 dX8_sheet_56 rfl rfl ⟨fun c30 => ?_, fun c30 => ?_⟩
            · replace H := H.1 c30
              refine wp_aload_n 66 dX8_sheet_65 rfl rfl ?_
              refine wp_getR 10 98 69 dX8_sheet_66 rfl fl_X8_37 kd_88 rfl rfl rfl rfl ?_
              refine wp_iload_n 70 dX8_sheet_69 rfl rfl ?_
              refine wp_iload_n 71 dX8_sheet_70 rfl rfl ?_
              have c31 := H.1; replace H := H.2
              refine wp_iast 72 dX8_sheet_71 rfl kd_98 c31 ?_
              refine wp_nm (fun h32 eh32 => ?_)
              replace H := H h32 eh32
              refine wp_aload_n 73 dX8_sheet_72 rfl rfl ?_
              refine wp_getR 11 99 76 dX8_sheet_73 rfl fl_X8_40 kd_88 rfl rfl rfl rfl ?_
              refine wp_iload_n 77 dX8_sheet_76 rfl rfl ?_
              refine wp_iload_n 78 dX8_sheet_77 rfl rfl ?_
              refine wp_if_ne 85 81 dX8_sheet_78 rfl rfl ⟨fun c33 => ?_, fun c33 => absurd c33 c4⟩
              refine wp_iload_n 86 dX8_sheet_85 rfl rfl ?_
              have c34 := H.1; replace H := H.2
              refine wp_iast 87 dX8_sheet_86 rfl kd_99 c34 ?_
              refine wp_nm (fun h35 eh35 => ?_)
              replace H := H h35 eh35
              refine wp_iconst (0 : Int32) 88 dX8_sheet_87 kiconst_0 rfl ?_
              refine wp_istore 90 dX8_sheet_88 rfl (Nat.le_of_ble_eq_true rfl) rfl ?_
              exact H
            · replace H := H.2 c30
              refine wp_aload_n 60 dX8_sheet_59 rfl rfl ?_
              refine wp_iconst (1 : Int32) 61 dX8_sheet_60 kiconst_1 rfl ?_
              have c36 := H.1; replace H := H.2
              refine wp_cV (d - 1) 1 [.int (1 : Int32)] [] 64 dX8_sheet_61 rfl (lk_X8_62 rfl) (by omega) kd_88 rfl rfl rfl (Nat.le_of_ble_eq_true rfl) (sp_X8_error (by omega) c36 (fun h37 eh37 => ?_))
              replace H := H h37 eh37
              exact wp_reti dX8_sheet_64 rfl H
          · replace H := H.2 c28
            refine wp_aload_n 44 dX8_sheet_43 rfl rfl ?_
            refine wp_iconst (3 : Int32) 45 dX8_sheet_44 kiconst_3 rfl ?_
            have c38 := H.1; replace H := H.2
            refine wp_cV (d - 1) 1 [.int (3 : Int32)] [] 48 dX8_sheet_45 rfl (lk_X8_62 rfl) (by omega) kd_88 rfl rfl rfl (Nat.le_of_ble_eq_true rfl) (sp_X8_error (by omega) c38 (fun h39 eh39 => ?_))
            replace H := H h39 eh39
            exact wp_reti dX8_sheet_48 rfl H
        · replace H := H.2 c26
          refine wp_iload_n 24 dX8_sheet_23 rfl rfl ?_
          refine wp_bipush (32 : Int32) 26 dX8_sheet_24 kbipush_32 rfl ?_
          refine wp_icmp_eq 35 29 dX8_sheet_26 rfl rfl ⟨fun c40 => ?_, fun c40 => ?_⟩
          · replace H := H.1 c40
            refine wp_iload_n 36 dX8_sheet_35 rfl rfl ?_
            refine wp_if_eq 49 39 dX8_sheet_36 rfl rfl ⟨fun c41 => absurd c41 c4, fun c41 => ?_⟩
            refine wp_iload_n 40 dX8_sheet_39 rfl rfl ?_
            refine wp_if_ge 49 43 dX8_sheet_40 rfl rfl ⟨fun c42 => ?_, fun c42 => ?_⟩
            · replace H := H.1 c42
              refine wp_iload_n 50 dX8_sheet_49 rfl rfl ?_
              refine wp_if_eq 65 53 dX8_sheet_50 rfl rfl ⟨fun c43 => absurd c43 c4, fun c43 => ?_⟩
              refine wp_iload_n 54 dX8_sheet_53 rfl rfl ?_
              refine wp_bipush (24 : Int32) 56 dX8_sheet_54 kbipush_24 rfl ?_
              refine wp_icmp_le 65 59 dX8_sheet_56 rfl rfl ⟨fun c44 => ?_, fun c44 => ?_⟩
              · replace H := H.1 c44
                refine wp_aload_n 66 dX8_sheet_65 rfl rfl ?_
                refine wp_getR 10 98 69 dX8_sheet_66 rfl fl_X8_37 kd_88 rfl rfl rfl rfl ?_
                refine wp_iload_n 70 dX8_sheet_69 rfl rfl ?_
                refine wp_iload_n 71 dX8_sheet_70 rfl rfl ?_
                have c45 := H.1; replace H := H.2
                refine wp_iast 72 dX8_sheet_71 rfl kd_98 c45 ?_
                refine wp_nm (fun h46 eh46 => ?_)
                replace H := H h46 eh46
                refine wp_aload_n 73 dX8_sheet_72 rfl rfl ?_
                refine wp_getR 11 99 76 dX8_sheet_73 rfl fl_X8_40 kd_88 rfl rfl rfl rfl ?_
                refine wp_iload_n 77 dX8_sheet_76 rfl rfl ?_
                refine wp_iload_n 78 dX8_sheet_77 rfl rfl ?_
                refine wp_if_ne 85 81 dX8_sheet_78 rfl rfl ⟨fun c47 => ?_, fun c47 => absurd c47 c4⟩
                refine wp_iload_n 86 dX8_sheet_85 rfl rfl ?_
                have c48 := H.1; replace H := H.2
                refine wp_iast 87 dX8_sheet_86 rfl kd_99 c48 ?_
                refine wp_nm (fun h49 eh49 => ?_)
                replace H := H h49 eh49
                refine wp_iconst (0 : Int32) 88 dX8_sheet_87 kiconst_0 rfl ?_
                refine wp_istore 90 dX8_sheet_88 rfl (Nat.le_of_ble_eq_true rfl) rfl ?_
                exact H
              · replace H := H.2 c44
                refine wp_aload_n 60 dX8_sheet_59 rfl rfl ?_
                refine wp_iconst (1 : Int32) 61 dX8_sheet_60 kiconst_1 rfl ?_
                have c50 := H.1; replace H := H.2
                refine wp_cV (d - 1) 1 [.int (1 : Int32)] [] 64 dX8_sheet_61 rfl (lk_X8_62 rfl) (by omega) kd_88 rfl rfl rfl (Nat.le_of_ble_eq_true rfl) (sp_X8_error (by omega) c50 (fun h51 eh51 => ?_))
                replace H := H h51 eh51
                exact wp_reti dX8_sheet_64 rfl H
            · replace H := H.2 c42
              refine wp_aload_n 44 dX8_sheet_43 rfl rfl ?_
              refine wp_iconst (3 : Int32) 45 dX8_sheet_44 kiconst_3 rfl ?_
              have c52 := H.1; replace H := H.2
              refine wp_cV (d - 1) 1 [.int (3 : Int32)] [] 48 dX8_sheet_45 rfl (lk_X8_62 rfl) (by omega) kd_88 rfl rfl rfl (Nat.le_of_ble_eq_true rfl) (sp_X8_error (by omega) c52 (fun h53 eh53 => ?_))
              replace H := H h53 eh53
              exact wp_reti dX8_sheet_48 rfl H
          · replace H := H.2 c40
            refine wp_aload_n 30 dX8_sheet_29 rfl rfl ?_
            refine wp_iconst (1 : Int32) 31 dX8_sheet_30 kiconst_1 rfl ?_
            have c54 := H.1; replace H := H.2
            refine wp_cV (d - 1) 1 [.int (1 : Int32)] [] 34 dX8_sheet_31 rfl (lk_X8_62 rfl) (by omega) kd_88 rfl rfl rfl (Nat.le_of_ble_eq_true rfl) (sp_X8_error (by omega) c54 (fun h55 eh55 => ?_))
            replace H := H h55 eh55
            exact wp_reti dX8_sheet_34 rfl H

theorem cg_X8_sheet {G : kG} {d : Nat} {Q : Int32 → kM → Prop}  {a1 : Int32} {a2 : Int32} {a3 : Int32} {h : kM} (hd : 3 ≤ d)  (H :
    (((kb (0 ≤ a1 ∧ a1 ≤ 3)) = 0 →
      (vp_in (1 : Int32) 7) ∧
      ∀ h3 : kM, h3 = kErr h 93 (1 : Int32) →
      Q (-1000000000 - (1 : Int32)) h3
    ) ∧ (¬ ((kb (0 ≤ a1 ∧ a1 ≤ 3)) = 0) →
      ((a2 = 0 →
        (vp_in a1 4) ∧
        ∀ h8 : kM, h8 = kU h 98 (a1).toNatClampNeg a2 →
        (vp_in a1 4) ∧
        ∀ h11 : kM, h11 = kU h8 99 (a1).toNatClampNeg (0 : Int32) →
        at_X8_sheet_90 G d Q a1 a2 a3 (0 : Int32) h11
      ) ∧ (¬ (a2 = 0) →
        ((a2 = (8 : Int32) →
          ((0 ≤ a3 →
            ((a3 ≤ (24 : Int32) →
              (vp_in a1 4) ∧
              ∀ h18 : kM, h18 = kU h 98 (a1).toNatClampNeg a2 →
              (vp_in a1 4) ∧
              ∀ h21 : kM, h21 = kU h18 99 (a1).toNatClampNeg a3 →
              at_X8_sheet_90 G d Q a1 a2 a3 (0 : Int32) h21
            ) ∧ (¬ (a3 ≤ (24 : Int32)) →
              (vp_in (1 : Int32) 7) ∧
              ∀ h23 : kM, h23 = kErr h 93 (1 : Int32) →
              Q (-1000000000 - (1 : Int32)) h23
            ))
          ) ∧ (¬ (0 ≤ a3) →
            (vp_in (3 : Int32) 7) ∧
            ∀ h25 : kM, h25 = kErr h 93 (3 : Int32) →
            Q (-1000000000 - (3 : Int32)) h25
          ))
        ) ∧ (¬ (a2 = (8 : Int32)) →
          ((a2 = (16 : Int32) →
            ((0 ≤ a3 →
              ((a3 ≤ (24 : Int32) →
                (vp_in a1 4) ∧
                ∀ h32 : kM, h32 = kU h 98 (a1).toNatClampNeg a2 →
                (vp_in a1 4) ∧
                ∀ h35 : kM, h35 = kU h32 99 (a1).toNatClampNeg a3 →
                at_X8_sheet_90 G d Q a1 a2 a3 (0 : Int32) h35
              ) ∧ (¬ (a3 ≤ (24 : Int32)) →
                (vp_in (1 : Int32) 7) ∧
                ∀ h37 : kM, h37 = kErr h 93 (1 : Int32) →
                Q (-1000000000 - (1 : Int32)) h37
              ))
            ) ∧ (¬ (0 ≤ a3) →
              (vp_in (3 : Int32) 7) ∧
              ∀ h39 : kM, h39 = kErr h 93 (3 : Int32) →
              Q (-1000000000 - (3 : Int32)) h39
            ))
          ) ∧ (¬ (a2 = (16 : Int32)) →
            ((a2 = (32 : Int32) →
              ((0 ≤ a3 →
                ((a3 ≤ (24 : Int32) →
                  (vp_in a1 4) ∧
                  ∀ h46 : kM, h46 = kU h 98 (a1).toNatClampNeg a2 →
                  (vp_in a1 4) ∧
                  ∀ h49 : kM, h49 = kU h46 99 (a1).toNatClampNeg a3 →
                  at_X8_sheet_90 G d Q a1 a2 a3 (0 : Int32) h49
                ) ∧ (¬ (a3 ≤ (24 : Int32)) →
                  (vp_in (1 : Int32) 7) ∧
                  ∀ h51 : kM, h51 = kErr h 93 (1 : Int32) →
                  Q (-1000000000 - (1 : Int32)) h51
                ))
              ) ∧ (¬ (0 ≤ a3) →
                (vp_in (3 : Int32) 7) ∧
                ∀ h53 : kM, h53 = kErr h 93 (3 : Int32) →
                Q (-1000000000 - (3 : Int32)) h53
              ))
            ) ∧ (¬ (a2 = (32 : Int32)) →
              (vp_in (1 : Int32) 7) ∧
              ∀ h55 : kM, h55 = kErr h 93 (1 : Int32) →
              Q (-1000000000 - (1 : Int32)) h55
            ))
          ))
        ))
      ))
    ))) : Cal G d m_X8_sheet [.ref 88, .int a1, .int a2, .int a3] h Q :=
  Cal.of [.ref 88, .int a1, .int a2, .int a3, .null] (by decide +kernel) (Nat.le_of_ble_eq_true rfl) rfl (sg_X8_sheet_0 hd  H)

theorem sg_X8_sheet_90 {G : kG} {d : Nat} {Q : Int32 → kM → Prop}  {v1 : Int32} {v2 : Int32} {v3 : Int32} {v4 : Int32} {h : kM} (hd : 3 ≤ d)  (H :
    (((24 : Int32) ≤ v4 →
      Q (1 : Int32) h
    ) ∧ (¬ ((24 : Int32) ≤ v4) →
      (vp_in (((24 : Int32) * v1) + v4) 96) ∧
      ∀ h3 : kM, h3 = kU h 100 ((((24 : Int32) * v1) + v4)).toNatClampNeg (0 : Int32) →
      at_X8_sheet_90 G d Q v1 v2 v3 (v4 + (1 : Int32)) h3
    ))) : at_X8_sheet_90 G d Q v1 v2 v3 v4 h := by
  show Wp G d m_X8_sheet (kEo G d m_X8_sheet Q) 90 [.ref 88, .int v1, .int v2, .int v3, .int v4] [] h
  refine wp_iload 92 dX8_sheet_90 rfl rfl ?_
  refine wp_bipush (24 : Int32) 94 dX8_sheet_92 kbipush_24 rfl ?_
  refine wp_icmp_ge 116 97 dX8_sheet_94 rfl rfl ⟨fun c1 => ?_, fun c1 => ?_⟩
  · replace H := H.1 c1
    refine wp_iconst (1 : Int32) 117 dX8_sheet_116 kiconst_1 rfl ?_
    exact wp_reti dX8_sheet_117 rfl H
  · replace H := H.2 c1
    refine wp_aload_n 98 dX8_sheet_97 rfl rfl ?_
    refine wp_getR 12 100 101 dX8_sheet_98 rfl fl_X8_43 kd_88 rfl rfl rfl rfl ?_
    refine wp_bipush (24 : Int32) 103 dX8_sheet_101 kbipush_24 rfl ?_
    refine wp_iload_n 104 dX8_sheet_103 rfl rfl ?_
    refine wp_imul 105 dX8_sheet_104 rfl ?_
    refine wp_iload 107 dX8_sheet_105 rfl rfl ?_
    refine wp_iadd 108 dX8_sheet_107 rfl ?_
    refine wp_iconst (0 : Int32) 109 dX8_sheet_108 kiconst_0 rfl ?_
    have c2 := H.1; replace H := H.2
    refine wp_iast 110 dX8_sheet_109 rfl kd_100 c2 ?_
    refine wp_nm (fun h3 eh3 => ?_)
    replace H := H h3 eh3
    refine wp_iinc (1 : Int32) 113 dX8_sheet_110 rfl rfl kiconst_1 (Nat.le_of_ble_eq_true rfl) rfl ?_
    refine wp_goto 90 dX8_sheet_113 rfl ?_
    exact H

theorem ix24 (s i : Nat) : (24 : Int32) * nI s + nI i = nI (24 * s + i) := by
  show nI 24 * nI s + nI i = _
  rw [pk_mul, nI_add]
theorem lp_msheet (hd : 3 ≤ d) {s : Nat} (hs : s < 4) {a b : Int32} (kk : ∀ h1, (∀ c, c ≠ 100 → h1 c = h c) → (∀ j, j < 24 → h1 100 (24 * s + j) = 0) → (∀ j, ¬ (24 * s ≤ j ∧ j < 24 * s + 24) → h1 100 j = h 100 j) → Q 1 h1) : ∀ (m i : Nat) (h1 : kM), i + m = 24 → (∀ c, c ≠ 100 → h1 c = h c) → (∀ j, j < i → h1 100 (24 * s + j) = 0) → (∀ j, ¬ (24 * s ≤ j ∧ j < 24 * s + 24) → h1 100 j = h 100 j) → at_X8_sheet_90 G d Q (nI s) a b (nI i) h1 := by
  intro m
  induction m with
  | zero =>
    intro i h1 hi ho hz hr
    have hi2 : i = 24 := by omega
    subst hi2
    exact sg_X8_sheet_90 hd ⟨fun _ => kk h1 ho hz hr, fun z => absurd (nI_le (Nat.le_refl 24) (by decide)) z⟩
  | succ m ih =>
    intro i h1 hi ho hz hr
    refine sg_X8_sheet_90 hd ⟨fun z => absurd z (ltn (nI_lt (b := 24) (by omega) (by decide))), fun _ => ⟨by rw [ix24]; exact vp_in_nI (by omega) (by decide), fun h2 e2 => ?_⟩⟩
    rw [ix24, nI_clamp (by omega)] at e2
    rw [nI_1]
    refine ih (i + 1) h2 (by omega) (fun c hc => by rw [e2, kU_ne hc, ho c hc]) (fun j hj => ?_) (fun j hj => ?_)
    · rw [e2, kU_eq]
      by_cases e : j = i
      · rw [e, pk_us]
      · rw [pk_un (by omega)]
        exact hz j (by omega)
    · rw [e2, kU_eq, pk_un (by omega)]
      exact hr j hj
/-- a Sheet begun anew in both -/
theorem kBegun (hR : kRel h) {s n : Nat} {b : Int32} (hs : s < 4) (hb : b = 0 ∨ b = 8 ∨ b = 16 ∨ b = 32) (hn : n ≤ 24) {h1 h2 h3 h4 : kM} (o1 : ∀ c, c ≠ 79 + 2 * s → c ≠ 79 + 2 * s + 1 → h1 c = h c) (b1 : h1 (79 + 2 * s) 1 = b) (c1 : h1 (79 + 2 * s) 2 = nI n) (z1 : ∀ j, j < 24 → h1 (79 + 2 * s + 1) j = 0) (e2 : h2 = kU h1 98 s b) (e3 : h3 = kU h2 99 s (nI n)) (o4 : ∀ c, c ≠ 100 → h4 c = h3 c) (z4 : ∀ j, j < 24 → h4 100 (24 * s + j) = 0) (r4 : ∀ j, ¬ (24 * s ≤ j ∧ j < 24 * s + 24) → h4 100 j = h3 100 j) : kRel h4 := by
  have o3 : ∀ c, c ≠ 98 → c ≠ 99 → h3 c = h1 c := fun c x y => by rw [e3, kU_ne y, e2, kU_ne x]
  have g98 : h4 98 = upd (h 98) s b := by rw [o4 98 (by decide), e3, kU_ne (by decide), e2, kU_eq, o1 98 (by omega) (by omega)]
  have g99 : h4 99 = upd (h 99) s (nI n) := by rw [o4 99 (by decide), e3, kU_eq, e2, kU_ne (by decide), o1 99 (by omega) (by omega)]
  refine hR.sheets (fun a x1 x2 x3 x4 _ => ?_) (fun t ht => ?_)
  · rw [o4 a x4, o3 a x2 x3, o1 a (by omega) (by omega)]
  · by_cases e : t = s
    · subst e
      have hq : h4 (79 + 2 * t) = h1 (79 + 2 * t) := by rw [o4 _ (by omega), o3 _ (by omega) (by omega)]
      refine ⟨⟨n, hn, by rw [hq, c1], by rw [g99, pk_us]⟩, by rw [hq, b1, g98, pk_us], by rw [g98, pk_us]; exact hb, fun i hi => ⟨0, ?_, ?_⟩⟩
      · rw [g98, pk_us, (kMC_0 hb).1, o4 _ (by omega), o3 _ (by omega) (by omega), show 80 + 2 * t = 79 + 2 * t + 1 by omega, z1 i hi]
      · rw [g98, pk_us, (kMC_0 hb).2, z4 i hi]
    · have hq : ∀ c, (c = 79 + 2 * t ∨ c = 80 + 2 * t) → h4 c = h c := fun c hc => by rw [o4 c (by omega), o3 c (by omega) (by omega), o1 c (by omega) (by omega)]
      refine (hR.2.2.2.2.2 t ht).congr (hq _ (Or.inl rfl)) (hq _ (Or.inr rfl)) (by rw [g98, pk_un e]) (by rw [g99, pk_un e]) (fun i hi => ?_)
      rw [r4 _ (by omega), o3 100 (by decide) (by decide), o1 100 (by omega) (by omega)]
theorem kHeld_n {n : Nat} (hn : n ≤ 24) : kHeld (nI n) 0 24 = nI n := by
  unfold kHeld
  have e1 : (if nI n < 24 then nI n else 24) = nI n := by
    by_cases e : n = 24
    · subst e
      decide
    · have l : nI n < 24 := nI_lt (b := 24) (by omega) (by decide)
      rw [if_pos l]
  rw [e1]
  by_cases e : n = 0
  · subst e
    decide
  · have l : 0 < nI n := nI_lt (a := 0) (by omega) (by omega)
    rw [if_pos l]
theorem st_sheet (hd : 3 ≤ d) (hR : kRel h) (a1 a2 a3 : Int32) : kStp G d m_X7_sheet m_X8_sheet [.int a1, .int a2, .int a3] h := by
  by_cases hc : 0 ≤ a1 ∧ a1 < 4
  · obtain ⟨s, hs, rfl⟩ := iI (n := 4) (by decide) hc.1 hc.2
    have hcl : (nI s).toNatClampNeg = s := nI_clamp (by omega)
    have hin : vp_in (nI s) 4 := vp_in_nI hs (by decide)
    have c3 : ¬ kb (0 ≤ nI s ∧ nI s ≤ 3) = 0 := fun q => absurd (i3.mpr hc) (kb_0.mp q)
    have fin : ∀ {b : Int32} {n : Nat} {h1 : kM} {z : Int32}, (b = 0 ∨ b = 8 ∨ b = 16 ∨ b = 32) → n ≤ 24 → (∀ c, c ≠ 79 + 2 * s → c ≠ 79 + 2 * s + 1 → h1 c = h c) → h1 (79 + 2 * s) 1 = b → h1 (79 + 2 * s) 2 = nI n → (∀ j, j < 24 → h1 (79 + 2 * s + 1) j = 0) → vp_in (nI s) 4 ∧ ∀ h2, h2 = kU h1 98 (nI s).toNatClampNeg b → vp_in (nI s) 4 ∧ ∀ h3, h3 = kU h2 99 (nI s).toNatClampNeg (nI n) → at_X8_sheet_90 G d (fun y h2 => 1 = y ∧ kRel h2) (nI s) b z 0 h3 := by
      intro b n h1 z hb hn o1 b1 n1 z1
      rw [hcl]
      exact ⟨hin, fun h2 e2 => ⟨hin, fun h3 e3 => lp_msheet hd hs (h := h3) (fun h4 o4 z4 r4 => ⟨rfl, kBegun hR hs hb hn o1 b1 n1 z1 e2 e3 o4 z4 r4⟩) 24 0 h3 (by omega) (fun _ _ => rfl) (fun j hj => absurd hj (Nat.not_lt_zero j)) (fun _ _ => rfl)⟩⟩
    by_cases h0 : a2 = 0
    · subst h0
      refine cg_X7_sheet hd ⟨fun q => absurd hc (kb_0.mp q), fun _ => ⟨fun _ => ⟨hin, fun q8 e8 k8 => ?_⟩, fun z => absurd rfl z⟩⟩
      rw [hcl] at e8
      subst e8
      refine sp_X4_begin (d := d - 1) (by omega) k8 (fun h1 o1 b1 n1 z1 => ?_)
      refine cg_X8_sheet hd ⟨fun q => absurd q c3, fun _ => ⟨fun _ => fin (Or.inl rfl) (Nat.zero_le 24) o1 b1 (n1.trans (kHeld_n (n := 0) (by decide))) z1, fun z => absurd rfl z⟩⟩
    · by_cases hb : a2 = 8 ∨ a2 = 16 ∨ a2 = 32
      · by_cases hp : 0 ≤ a3
        · by_cases hl : a3 ≤ 24
          · obtain ⟨n, -, hn, rfl⟩ := iB 0 24 (by decide) hp hl (by decide)
            have cls : ∀ q : Nat, q = 79 + 2 * (nI s).toNatClampNeg → kSht q → Cal G (d - 1) m_X4_begin [.ref q, .int a2, .int (nI n)] h (fun x10 h11 => Cal G d m_X8_sheet [.ref 88, .int (nI s), .int a2, .int (nI n)] h11 (fun y h2 => 1 = y ∧ kRel h2)) := by
              intro q8 e8 k8
              rw [hcl] at e8
              subst e8
              refine sp_X4_begin (d := d - 1) (by omega) k8 (fun h1 o1 b1 n1 z1 => ?_)
              have f := @fin a2 n h1 (nI n) (Or.inr hb) hn o1 b1 (n1.trans (kHeld_n hn)) z1
              refine cg_X8_sheet hd ⟨fun q => absurd q c3, fun _ => ⟨fun z => absurd z h0, fun _ => ?_⟩⟩
              exact ⟨fun _ => ⟨fun _ => ⟨fun _ => f, fun z => absurd hl z⟩, fun z => absurd hp z⟩, fun n8 => ⟨fun _ => ⟨fun _ => ⟨fun _ => f, fun z => absurd hl z⟩, fun z => absurd hp z⟩, fun n16 => ⟨fun _ => ⟨fun _ => ⟨fun _ => f, fun z => absurd hl z⟩, fun z => absurd hp z⟩, fun n32 => by rcases hb with e | e | e; exact absurd e n8; exact absurd e n16; exact absurd e n32⟩⟩⟩
            refine cg_X7_sheet hd ⟨fun q => absurd hc (kb_0.mp q), fun _ => ⟨fun z => absurd z h0, fun _ => ?_⟩⟩
            have g := And.intro hin cls
            exact ⟨fun _ => ⟨fun _ => ⟨fun _ => g, fun z => absurd hl z⟩, fun z => absurd hp z⟩, fun n8 => ⟨fun _ => ⟨fun _ => ⟨fun _ => g, fun z => absurd hl z⟩, fun z => absurd hp z⟩, fun n16 => ⟨fun _ => ⟨fun _ => ⟨fun _ => g, fun z => absurd hl z⟩, fun z => absurd hp z⟩, fun n32 => by rcases hb with e | e | e; exact absurd e n8; exact absurd e n16; exact absurd e n32⟩⟩⟩
          · have mo : ∀ h1, h1 = kErr h 87 1 → Cal G d m_X8_sheet [.ref 88, .int (nI s), .int a2, .int a3] h1 (fun y h2 => -1000000000 - 1 = y ∧ kRel h2) := fun h1 e1 => by
              have f := And.intro (kin7 (n := 1) (by decide)) (kErrs hR (x := -1000000000 - 1) h1 e1)
              refine cg_X8_sheet hd ⟨fun q => absurd q c3, fun _ => ⟨fun z => absurd z h0, fun _ => ?_⟩⟩
              exact ⟨fun _ => ⟨fun _ => ⟨fun z => absurd z hl, fun _ => f⟩, fun z => absurd hp z⟩, fun n8 => ⟨fun _ => ⟨fun _ => ⟨fun z => absurd z hl, fun _ => f⟩, fun z => absurd hp z⟩, fun n16 => ⟨fun _ => ⟨fun _ => ⟨fun z => absurd z hl, fun _ => f⟩, fun z => absurd hp z⟩, fun n32 => by rcases hb with e | e | e; exact absurd e n8; exact absurd e n16; exact absurd e n32⟩⟩⟩
            have g := And.intro (kin7 (n := 1) (by decide)) mo
            refine cg_X7_sheet hd ⟨fun q => absurd hc (kb_0.mp q), fun _ => ⟨fun z => absurd z h0, fun _ => ?_⟩⟩
            exact ⟨fun _ => ⟨fun _ => ⟨fun z => absurd z hl, fun _ => g⟩, fun z => absurd hp z⟩, fun n8 => ⟨fun _ => ⟨fun _ => ⟨fun z => absurd z hl, fun _ => g⟩, fun z => absurd hp z⟩, fun n16 => ⟨fun _ => ⟨fun _ => ⟨fun z => absurd z hl, fun _ => g⟩, fun z => absurd hp z⟩, fun n32 => by rcases hb with e | e | e; exact absurd e n8; exact absurd e n16; exact absurd e n32⟩⟩⟩
        · have mo : ∀ h1, h1 = kErr h 87 3 → Cal G d m_X8_sheet [.ref 88, .int (nI s), .int a2, .int a3] h1 (fun y h2 => -1000000000 - 3 = y ∧ kRel h2) := fun h1 e1 => by
            have f := And.intro (kin7 (n := 3) (by decide)) (kErrs hR (x := -1000000000 - 3) h1 e1)
            refine cg_X8_sheet hd ⟨fun q => absurd q c3, fun _ => ⟨fun z => absurd z h0, fun _ => ?_⟩⟩
            exact ⟨fun _ => ⟨fun z => absurd z hp, fun _ => f⟩, fun n8 => ⟨fun _ => ⟨fun z => absurd z hp, fun _ => f⟩, fun n16 => ⟨fun _ => ⟨fun z => absurd z hp, fun _ => f⟩, fun n32 => by rcases hb with e | e | e; exact absurd e n8; exact absurd e n16; exact absurd e n32⟩⟩⟩
          have g := And.intro (kin7 (n := 3) (by decide)) mo
          refine cg_X7_sheet hd ⟨fun q => absurd hc (kb_0.mp q), fun _ => ⟨fun z => absurd z h0, fun _ => ?_⟩⟩
          exact ⟨fun _ => ⟨fun z => absurd z hp, fun _ => g⟩, fun n8 => ⟨fun _ => ⟨fun z => absurd z hp, fun _ => g⟩, fun n16 => ⟨fun _ => ⟨fun z => absurd z hp, fun _ => g⟩, fun n32 => by rcases hb with e | e | e; exact absurd e n8; exact absurd e n16; exact absurd e n32⟩⟩⟩
      · have n8 : ¬ a2 = 8 := fun e => hb (Or.inl e)
        have n16 : ¬ a2 = 16 := fun e => hb (Or.inr (Or.inl e))
        have n32 : ¬ a2 = 32 := fun e => hb (Or.inr (Or.inr e))
        refine cg_X7_sheet hd ⟨fun q => absurd hc (kb_0.mp q), fun _ => ⟨fun z => absurd z h0, fun _ => ⟨fun z => absurd z n8, fun _ => ⟨fun z => absurd z n16, fun _ => ⟨fun z => absurd z n32, fun _ => ⟨kin7 (n := 1) (by decide), fun h1 e1 => ?_⟩⟩⟩⟩⟩⟩
        exact cg_X8_sheet hd ⟨fun q => absurd q c3, fun _ => ⟨fun z => absurd z h0, fun _ => ⟨fun z => absurd z n8, fun _ => ⟨fun z => absurd z n16, fun _ => ⟨fun z => absurd z n32, fun _ => ⟨kin7 (n := 1) (by decide), kErrs hR h1 e1⟩⟩⟩⟩⟩⟩
  · refine cg_X7_sheet hd ⟨fun _ => ⟨kin7 (n := 1) (by decide), fun h1 e1 => ?_⟩, fun q => absurd (kb_n0.mp q) hc⟩
    exact cg_X8_sheet hd ⟨fun _ => ⟨kin7 (n := 1) (by decide), kErrs hR h1 e1⟩, fun q => absurd (i3.mp (kb_n0.mp q)) hc⟩
end Sheets

