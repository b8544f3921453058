/-! what would be: the views ahead -/
section Ahead
variable {G : kG} {d : Nat} {Q : Int32 → kM → Prop} {h : kM}
theorem kHr_c {v : kM} {a : Nat} (h0 : a ≠ 0) (h3 : a ≠ 3) : kHr v a = v a := by
  show (if a = 0 then _ else if a = 3 then _ else v a) = v a
  rw [if_neg h0, if_neg h3]
theorem kHr_s {v : kM} {s : Nat} (h : s ≠ 13) : kHr v 0 s = v 0 s := by
  show upd (v 0) 13 _ s = v 0 s
  rw [pk_un h]
theorem kHr_h {v : kM} : kHr v 0 13 = v 0 13 + 1 := by
  show upd (v 0) 13 (v 0 13 + 1) 13 = _
  rw [pk_us]
theorem kHrN_c {v : kM} {a : Nat} (h0 : a ≠ 0) (h3 : a ≠ 3) : ∀ t, kHrN v t a = v a
  | 0 => rfl
  | t + 1 => (kHr_c h0 h3).trans (kHrN_c h0 h3 t)
theorem kHrN_s {v : kM} {s : Nat} (h : s ≠ 13) : ∀ t, kHrN v t 0 s = v 0 s
  | 0 => rfl
  | t + 1 => (kHr_s h).trans (kHrN_s h t)
theorem kHrN_h {v : kM} : ∀ t, kHrN v t 0 13 = v 0 13 + nI t
  | 0 => by
    show v 0 13 = v 0 13 + nI 0
    rw [nI_0, Int32.add_zero]
  | t + 1 => by
    show kHr (kHrN v t) 0 13 = _
    rw [kHr_h, kHrN_h t, Int32.add_assoc, nI_1]
theorem kWn_of {v v' : kM} (h0 : v' 0 12 = v 0 12) (h2 : v' 2 = v 2) (h5 : v' 5 = v 5) (h6 : v' 6 = v 6) (h7 : v' 7 = v 7) (h8 : v' 8 = v 8) (h11 : v' 11 = v 11) (h12 : v' 12 = v 12) (w t : Int32) : kWn v' w t = kWn v w t := by
  have ft : ∀ k, kWt v' w t k = kWt v w t k := fun k => by
    unfold kWt kFo
    rw [h8, h7, h11, h12, h5, h6]
  unfold kWn kNs
  rw [h0, h2]
  exact kSum_congr _ (fun i _ => ft i)
/-- the wind of an hour ahead -/
theorem kWn_N {v : kM} (t : Nat) (w x : Int32) : kWn (kHrN v t) w x = kWn v w x :=
  kWn_of (kHrN_s (by decide) t) (kHrN_c (by decide) (by decide) t) (kHrN_c (by decide) (by decide) t) (kHrN_c (by decide) (by decide) t) (kHrN_c (by decide) (by decide) t) (kHrN_c (by decide) (by decide) t) (kHrN_c (by decide) (by decide) t) (kHrN_c (by decide) (by decide) t) w x
theorem kNs_N {v : kM} (t : Nat) : kNs (kHrN v t) = kNs v := by
  unfold kNs
  rw [kHrN_s (by decide) t]
/-- where a ship is ahead -/
theorem kHrN_p {v : kM} {t p : Nat} (hp : p < kNs v) : kHrN v (t + 1) 3 p = kPl (kSai (v 1) (kPort v p) (kWn v 0 (v 0 13 + nI t)) (kWn v 1 (v 0 13 + nI t)) (kXy (kHrN v t 3 p))) := by
  show (if p < kNs (kHrN v t) then kGo1 (kHrN v t) _ _ p else _) = _
  rw [kNs_N, if_pos hp, kHrN_h, kWn_N, kWn_N]
  unfold kGo1 kPort
  rw [kHrN_c (a := 1) (by decide) (by decide), kHrN_c (a := 4) (by decide) (by decide)]
/-- a row laid back -/
theorem kSRn.mix {v v' : kM} {g g' g2 : Nat → Int32} {n H f w n' H' : Nat} (hS : kSRn v g n H f w) (hS' : kSRn v' g' n' H' f w) (e9 : v' 9 = v 9) (e10 : v' 10 = v 10) (e11 : v' 11 = v 11) (e12 : v' 12 = v 12) (e14 : v' 14 = v 14) (e15 : v' 15 = v 15) (h1 : ∀ j, j < 147 → g2 j = g j) (h2 : ∀ j, 147 ≤ j → g2 j = g' j) : kSRn v g2 n H f w := by
  obtain ⟨s1, s2, s3, s4, s5, s6, s7, s8, s9, -, -, -, -⟩ := hS
  obtain ⟨-, -, -, -, -, -, -, -, -, s10, s11, s12, s13⟩ := hS'
  have hn := s1.1
  refine ⟨by rw [h1 0 (by decide)]; exact s1, by rw [h1 1 (by decide)]; exact s2, by rw [h1 4 (by decide)]; exact s3, by rw [h1 5 (by decide)]; exact s4, by rw [h1 6 (by decide)]; exact s5, fun i hi => ?_, fun i hi => ?_, fun p hp => ?_, fun k hk => ?_, ?_, ?_, fun i hi => ?_, fun i hi => ?_⟩
  · rw [h1 (2 + i) (by omega)]; exact s6 i hi
  · rw [h1 (8 + i) (by omega)]; exact s7 i hi
  · unfold kShipR
    rw [h1 (72 + 3 * p) (by omega), h1 (73 + 3 * p) (by omega), h1 (74 + 3 * p) (by omega)]
    exact s8 p hp
  · unfold kKnotR
    rw [h1 (87 + 4 * k) (by omega), h1 (88 + 4 * k) (by omega), h1 (89 + 4 * k) (by omega), h1 (90 + 4 * k) (by omega)]
    exact s9 k hk
  · rw [← e11, ← e12]
    exact s10.congr (fun j a1 a2 => h2 j (by omega))
  · rw [← e14, ← e15]
    exact s11.congr (fun j a1 a2 => h2 j (by omega))
  · rw [h2 (397 + i) (by omega), ← e9]
    exact s12 i hi
  · rw [h2 (457 + i) (by omega), ← e10]
    exact s13 i hi
theorem kSRn.mixN {v : kM} {g g' g2 : Nat → Int32} {n H f w n' H' t : Nat} (hS : kSRn v g n H f w) (hS' : kSRn (kHrN v t) g' n' H' f w) (h1 : ∀ j, j < 147 → g2 j = g j) (h2 : ∀ j, 147 ≤ j → g2 j = g' j) : kSRn v g2 n H f w :=
  hS.mix hS' (kHrN_c (by decide) (by decide) t) (kHrN_c (by decide) (by decide) t) (kHrN_c (by decide) (by decide) t) (kHrN_c (by decide) (by decide) t) (kHrN_c (by decide) (by decide) t) (kHrN_c (by decide) (by decide) t) h1 h2
theorem cpy0 {f g : Nat → Int32} {n j : Nat} : va_cpy f g 0 0 n j = if j < n then f j else g j := by
  by_cases e : j < n
  · rw [if_pos e, pk_cpy_in (Nat.zero_le j) (by omega), Nat.zero_add, Nat.sub_zero]
  · rw [if_neg e, pk_cpy_out (by omega)]
/-- rows copied word by word -/
theorem cp_step {h h1 h2 : kM} {q r i : Nat} (hqr : r ≠ q) (e1 : h1 = kCp h q r 0 0 i) (e2 : h2 = kU h1 r i (h1 q i)) : h2 = kCp h q r 0 0 (i + 1) := by
  subst e2
  subst e1
  funext a
  by_cases ha : a = r
  · subst ha
    rw [kU_eq, kCp_eq, kCp_eq, kCp_ne (fun z => hqr z.symm)]
    funext j
    by_cases hj : j = i
    · subst hj
      rw [pk_us, cpy0, if_pos (Nat.lt_succ_self j)]
    · rw [pk_un hj, cpy0, cpy0]
      by_cases hl : j < i
      · rw [if_pos hl, if_pos (by omega)]
      · rw [if_neg hl, if_neg (by omega)]
  · rw [kU_ne ha, kCp_ne ha, kCp_ne ha]
theorem cp_zero {h : kM} {q r : Nat} : h = kCp h q r 0 0 0 := by
  funext a
  by_cases ha : a = r
  · subst ha
    rw [kCp_eq]
    funext j
    rw [cpy0, if_neg (Nat.not_lt_zero j)]
  · rw [kCp_ne ha]
def at_X8_layDown_2 (G : kG) (d : Nat) (Q : Int32 → kM → Prop)  (v1 : Int32) (v2 : Int32) (h : kM) : Prop := Wp G d m_X8_layDown (kEo G d m_X8_layDown Q) 2 [.ref 88, .int v1, .int v2] [] h
theorem sg_X8_layDown_0 {G : kG} {d : Nat} {Q : Int32 → kM → Prop}  {a1 : Int32} {h : kM} (hd : 1 ≤ d)  (H :
    at_X8_layDown_2 G d Q a1 (0 : Int32) h) : Wp G d m_X8_layDown (kEo G d m_X8_layDown Q) 0 [.ref 88, .int a1, .null] [] h := by
  refine wp_iconst (0 : Int32) 1 dX8_layDown_0 kiconst_0 rfl ?_
  refine wp_istore_n 2 dX8_layDown_1 rfl (Nat.le_of_ble_eq_true rfl) rfl ?_
  exact H

theorem cg_X8_layDown {G : kG} {d : Nat} {Q : Int32 → kM → Prop}  {a1 : Int32} {h : kM} (hd : 1 ≤ d)  (H :
    at_X8_layDown_2 G d Q a1 (0 : Int32) h) : Cal G d m_X8_layDown [.ref 88, .int a1] h Q :=
  Cal.of [.ref 88, .int a1, .null] (by decide +kernel) (Nat.le_of_ble_eq_true rfl) rfl (sg_X8_layDown_0 hd  H)

theorem sg_X8_layDown_2 {G : kG} {d : Nat} {Q : Int32 → kM → Prop}  {v1 : Int32} {v2 : Int32} {h : kM} (hd : 1 ≤ d)  (H :
    (((147 : Int32) ≤ v2 →
      Q 0 h
    ) ∧ (¬ ((147 : Int32) ≤ v2) →
      (vp_in v2 481) ∧
      (vp_in (((147 : Int32) * v1) + v2) 294) ∧
      ∀ h4 : kM, h4 = kU h 92 ((((147 : Int32) * v1) + v2)).toNatClampNeg (h 89 (v2).toNatClampNeg) →
      at_X8_layDown_2 G d Q v1 (v2 + (1 : Int32)) h4
    ))) : at_X8_layDown_2 G d Q v1 v2 h := by
  show Wp G d m_X8_layDown (kEo G d m_X8_layDown Q) 2 [.ref 88, .int v1, .int v2] [] h
  refine wp_iload_n 3 dX8_layDown_2 rfl rfl ?_
  refine wp_sipush (147 : Int32) 6 dX8_layDown_3 ksipush_147 rfl ?_
  refine wp_icmp_ge 33 9 dX8_layDown_6 rfl rfl ⟨fun c1 => ?_, fun c1 => ?_⟩
  · replace H := H.1 c1
    exact wp_retv dX8_layDown_33 rfl H
  · replace H := H.2 c1
    refine wp_aload_n 10 dX8_layDown_9 rfl rfl ?_
    refine wp_getR 4 92 13 dX8_layDown_10 rfl fl_X8_19 kd_88 rfl rfl rfl rfl ?_
    refine wp_sipush (147 : Int32) 16 dX8_layDown_13 ksipush_147 rfl ?_
    refine wp_iload_n 17 dX8_layDown_16 rfl rfl ?_
    refine wp_imul 18 dX8_layDown_17 rfl ?_
    refine wp_iload_n 19 dX8_layDown_18 rfl rfl ?_
    refine wp_iadd 20 dX8_layDown_19 rfl ?_
    refine wp_aload_n 21 dX8_layDown_20 rfl rfl ?_
    refine wp_getR 1 89 24 dX8_layDown_21 rfl fl_X8_7 kd_88 rfl rfl rfl rfl ?_
    refine wp_iload_n 25 dX8_layDown_24 rfl rfl ?_
    have c2 := H.1; replace H := H.2
    refine wp_iald 26 dX8_layDown_25 rfl kd_89 c2 ?_
    have c3 := H.1; replace H := H.2
    refine wp_iast 27 dX8_layDown_26 rfl kd_92 c3 ?_
    refine wp_nm (fun h4 eh4 => ?_)
    replace H := H h4 eh4
    refine wp_iinc (1 : Int32) 30 dX8_layDown_27 rfl rfl kiconst_1 (Nat.le_of_ble_eq_true rfl) rfl ?_
    refine wp_goto 2 dX8_layDown_30 rfl ?_
    exact H

def at_X8_layBack_2 (G : kG) (d : Nat) (Q : Int32 → kM → Prop)  (v1 : Int32) (v2 : Int32) (h : kM) : Prop := Wp G d m_X8_layBack (kEo G d m_X8_layBack Q) 2 [.ref 88, .int v1, .int v2] [] h
theorem sg_X8_layBack_0 {G : kG} {d : Nat} {Q : Int32 → kM → Prop}  {a1 : Int32} {h : kM} (hd : 1 ≤ d)  (H :
    at_X8_layBack_2 G d Q a1 (0 : Int32) h) : Wp G d m_X8_layBack (kEo G d m_X8_layBack Q) 0 [.ref 88, .int a1, .null] [] h := by
  refine wp_iconst (0 : Int32) 1 dX8_layBack_0 kiconst_0 rfl ?_
  refine wp_istore_n 2 dX8_layBack_1 rfl (Nat.le_of_ble_eq_true rfl) rfl ?_
  exact H

theorem cg_X8_layBack {G : kG} {d : Nat} {Q : Int32 → kM → Prop}  {a1 : Int32} {h : kM} (hd : 1 ≤ d)  (H :
    at_X8_layBack_2 G d Q a1 (0 : Int32) h) : Cal G d m_X8_layBack [.ref 88, .int a1] h Q :=
  Cal.of [.ref 88, .int a1, .null] (by decide +kernel) (Nat.le_of_ble_eq_true rfl) rfl (sg_X8_layBack_0 hd  H)

theorem sg_X8_layBack_2 {G : kG} {d : Nat} {Q : Int32 → kM → Prop}  {v1 : Int32} {v2 : Int32} {h : kM} (hd : 1 ≤ d)  (H :
    (((147 : Int32) ≤ v2 →
      Q 0 h
    ) ∧ (¬ ((147 : Int32) ≤ v2) →
      (vp_in (((147 : Int32) * v1) + v2) 294) ∧
      (vp_in v2 481) ∧
      ∀ h4 : kM, h4 = kU h 89 (v2).toNatClampNeg (h 92 ((((147 : Int32) * v1) + v2)).toNatClampNeg) →
      at_X8_layBack_2 G d Q v1 (v2 + (1 : Int32)) h4
    ))) : at_X8_layBack_2 G d Q v1 v2 h := by
  show Wp G d m_X8_layBack (kEo G d m_X8_layBack Q) 2 [.ref 88, .int v1, .int v2] [] h
  refine wp_iload_n 3 dX8_layBack_2 rfl rfl ?_
  refine wp_sipush (147 : Int32) 6 dX8_layBack_3 ksipush_147 rfl ?_
  refine wp_icmp_ge 33 9 dX8_layBack_6 rfl rfl ⟨fun c1 => ?_, fun c1 => ?_⟩
  · replace H := H.1 c1
    exact wp_retv dX8_layBack_33 rfl H
  · replace H := H.2 c1
    refine wp_aload_n 10 dX8_layBack_9 rfl rfl ?_
    refine wp_getR 1 89 13 dX8_layBack_10 rfl fl_X8_7 kd_88 rfl rfl rfl rfl ?_
    refine wp_iload_n 14 dX8_layBack_13 rfl rfl ?_
    refine wp_aload_n 15 dX8_layBack_14 rfl rfl ?_
    refine wp_getR 4 92 18 dX8_layBack_15 rfl fl_X8_19 kd_88 rfl rfl rfl rfl ?_
    refine wp_sipush (147 : Int32) 21 dX8_layBack_18 ksipush_147 rfl ?_
    refine wp_iload_n 22 dX8_layBack_21 rfl rfl ?_
    refine wp_imul 23 dX8_layBack_22 rfl ?_
    refine wp_iload_n 24 dX8_layBack_23 rfl rfl ?_
    refine wp_iadd 25 dX8_layBack_24 rfl ?_
    have c2 := H.1; replace H := H.2
    refine wp_iald 26 dX8_layBack_25 rfl kd_92 c2 ?_
    have c3 := H.1; replace H := H.2
    refine wp_iast 27 dX8_layBack_26 rfl kd_89 c3 ?_
    refine wp_nm (fun h4 eh4 => ?_)
    replace H := H h4 eh4
    refine wp_iinc (1 : Int32) 30 dX8_layBack_27 rfl rfl kiconst_1 (Nat.le_of_ble_eq_true rfl) rfl ?_
    refine wp_goto 2 dX8_layBack_30 rfl ?_
    exact H

def at_X8_carry_2 (G : kG) (d : Nat) (Q : Int32 → kM → Prop) (q : Nat) (r : Nat) (v2 : Int32) (h : kM) : Prop := Wp G d m_X8_carry (kEo G d m_X8_carry Q) 2 [.ref q, .ref r, .int v2] [] h
theorem sg_X8_carry_0 {G : kG} {d : Nat} {Q : Int32 → kM → Prop} {q : Nat} {r : Nat}  {h : kM} (hd : 1 ≤ d) (k_q : kd q = (1, 481)) (k_r : kd r = (1, 481)) (H :
    at_X8_carry_2 G d Q q r (0 : Int32) h) : Wp G d m_X8_carry (kEo G d m_X8_carry Q) 0 [.ref q, .ref r, .null] [] h := by
  refine wp_iconst (0 : Int32) 1 dX8_carry_0 kiconst_0 rfl ?_
  refine wp_istore_n 2 dX8_carry_1 rfl (Nat.le_of_ble_eq_true rfl) rfl ?_
  exact H

theorem cg_X8_carry {G : kG} {d : Nat} {Q : Int32 → kM → Prop} {q : Nat} {r : Nat}  {h : kM} (hd : 1 ≤ d) (k_q : kd q = (1, 481)) (k_r : kd r = (1, 481)) (H :
    at_X8_carry_2 G d Q q r (0 : Int32) h) : Cal G d m_X8_carry [.ref q, .ref r] h Q :=
  Cal.of [.ref q, .ref r, .null] (by decide +kernel) (Nat.le_of_ble_eq_true rfl) rfl (sg_X8_carry_0 hd k_q k_r H)

theorem sg_X8_carry_2 {G : kG} {d : Nat} {Q : Int32 → kM → Prop} {q : Nat} {r : Nat} {v2 : Int32} {h : kM} (hd : 1 ≤ d) (k_q : kd q = (1, 481)) (k_r : kd r = (1, 481)) (H :
    (((481 : Int32) ≤ v2 →
      Q 0 h
    ) ∧ (¬ ((481 : Int32) ≤ v2) →
      (vp_in v2 481) ∧
      (vp_in v2 481) ∧
      ∀ h4 : kM, h4 = kU h r (v2).toNatClampNeg (h q (v2).toNatClampNeg) →
      at_X8_carry_2 G d Q q r (v2 + (1 : Int32)) h4
    ))) : at_X8_carry_2 G d Q q r v2 h := by
  show Wp G d m_X8_carry (kEo G d m_X8_carry Q) 2 [.ref q, .ref r, .int v2] [] h
  refine wp_iload_n 3 dX8_carry_2 rfl rfl ?_
  refine wp_sipush (481 : Int32) 6 dX8_carry_3 ksipush_481 rfl ?_
  refine wp_icmp_ge 21 9 dX8_carry_6 rfl rfl ⟨fun c1 => ?_, fun c1 => ?_⟩
  · replace H := H.1 c1
    exact wp_retv dX8_carry_21 rfl H
  · replace H := H.2 c1
    refine wp_aload_n 10 dX8_carry_9 rfl rfl ?_
    refine wp_iload_n 11 dX8_carry_10 rfl rfl ?_
    refine wp_aload_n 12 dX8_carry_11 rfl rfl ?_
    refine wp_iload_n 13 dX8_carry_12 rfl rfl ?_
    have c2 := H.1; replace H := H.2
    refine wp_iald 14 dX8_carry_13 rfl k_q c2 ?_
    have c3 := H.1; replace H := H.2
    refine wp_iast 15 dX8_carry_14 rfl k_r c3 ?_
    refine wp_nm (fun h4 eh4 => ?_)
    replace H := H h4 eh4
    refine wp_iinc (1 : Int32) 18 dX8_carry_15 rfl rfl kiconst_1 (Nat.le_of_ble_eq_true rfl) rfl ?_
    refine wp_goto 2 dX8_carry_18 rfl ?_
    exact H

theorem ix147 (i : Nat) : (147 : Int32) * 0 + nI i = nI i := by
  rw [Int32.mul_zero, Int32.zero_add]
theorem lp_layDown (hd : 1 ≤ d) (kk : ∀ h1, h1 = kCp h 89 92 0 0 147 → Q 0 h1) : ∀ (m i : Nat) (h1 : kM), i + m = 147 → h1 = kCp h 89 92 0 0 i → at_X8_layDown_2 G d Q 0 (nI i) h1 := by
  intro m
  induction m with
  | zero =>
    intro i h1 hi e1
    have hi2 : i = 147 := by omega
    subst hi2
    exact sg_X8_layDown_2 hd ⟨fun _ => kk h1 e1, fun q => absurd (nI_le (Nat.le_refl 147) (by decide)) q⟩
  | succ m ih =>
    intro i h1 hi e1
    refine sg_X8_layDown_2 hd ⟨fun q => absurd q (ltn (nI_lt (b := 147) (by omega) (by decide))), fun _ => ⟨vp_in_nI (by omega) (by decide), by rw [ix147]; exact vp_in_nI (by omega) (by decide), fun h2 e2 => ?_⟩⟩
    rw [ix147, nI_clamp (by omega)] at e2
    rw [nI_1]
    exact ih (i + 1) h2 (by omega) (cp_step (by decide) e1 e2)
theorem sp_X8_layDown (hd : 1 ≤ d) (kk : ∀ h1, h1 = kCp h 89 92 0 0 147 → Q 0 h1) : Cal G d m_X8_layDown [.ref 88, .int 0] h Q :=
  cg_X8_layDown hd (lp_layDown hd kk 147 0 h (by omega) cp_zero)
theorem lp_layBack (hd : 1 ≤ d) (kk : ∀ h1, h1 = kCp h 92 89 0 0 147 → Q 0 h1) : ∀ (m i : Nat) (h1 : kM), i + m = 147 → h1 = kCp h 92 89 0 0 i → at_X8_layBack_2 G d Q 0 (nI i) h1 := by
  intro m
  induction m with
  | zero =>
    intro i h1 hi e1
    have hi2 : i = 147 := by omega
    subst hi2
    exact sg_X8_layBack_2 hd ⟨fun _ => kk h1 e1, fun q => absurd (nI_le (Nat.le_refl 147) (by decide)) q⟩
  | succ m ih =>
    intro i h1 hi e1
    refine sg_X8_layBack_2 hd ⟨fun q => absurd q (ltn (nI_lt (b := 147) (by omega) (by decide))), fun _ => ⟨by rw [ix147]; exact vp_in_nI (by omega) (by decide), vp_in_nI (by omega) (by decide), fun h2 e2 => ?_⟩⟩
    rw [ix147, nI_clamp (by omega)] at e2
    rw [nI_1]
    exact ih (i + 1) h2 (by omega) (cp_step (by decide) e1 e2)
theorem sp_X8_layBack (hd : 1 ≤ d) (kk : ∀ h1, h1 = kCp h 92 89 0 0 147 → Q 0 h1) : Cal G d m_X8_layBack [.ref 88, .int 0] h Q :=
  cg_X8_layBack hd (lp_layBack hd kk 147 0 h (by omega) cp_zero)
theorem lp_carry (hd : 1 ≤ d) {q r : Nat} (hq : kd q = (1, 481)) (hr : kd r = (1, 481)) (hqr : r ≠ q) (kk : ∀ h1, h1 = kCp h q r 0 0 481 → Q 0 h1) : ∀ (m i : Nat) (h1 : kM), i + m = 481 → h1 = kCp h q r 0 0 i → at_X8_carry_2 G d Q q r (nI i) h1 := by
  intro m
  induction m with
  | zero =>
    intro i h1 hi e1
    have hi2 : i = 481 := by omega
    subst hi2
    exact sg_X8_carry_2 hd hq hr ⟨fun _ => kk h1 e1, fun q => absurd (nI_le (Nat.le_refl 481) (by decide)) q⟩
  | succ m ih =>
    intro i h1 hi e1
    have hin : vp_in (nI i) 481 := vp_in_nI (by omega) (by decide)
    refine sg_X8_carry_2 hd hq hr ⟨fun q => absurd q (ltn (nI_lt (b := 481) (by omega) (by decide))), fun _ => ⟨hin, hin, fun h2 e2 => ?_⟩⟩
    rw [nI_clamp (by omega)] at e2
    rw [nI_1]
    exact ih (i + 1) h2 (by omega) (cp_step hqr e1 e2)
theorem sp_X8_carry (hd : 1 ≤ d) {q r : Nat} (hq : kd q = (1, 481)) (hr : kd r = (1, 481)) (hqr : r ≠ q) (kk : ∀ h1, h1 = kCp h q r 0 0 481 → Q 0 h1) : Cal G d m_X8_carry [.ref q, .ref r] h Q :=
  cg_X8_carry hd hq hr (lp_carry hd hq hr hqr kk 481 0 h (by omega) cp_zero)
theorem sg_X7_wind_0 {G : kG} {d : Nat} {Q : Int32 → kM → Prop}  {a1 : Int32} {h : kM} (hd : 6 ≤ d)  (H :
    ((¬ (kb (0 ≤ a1 ∧ a1 < (2 : Int32))) = 0 →
      (vp_in a1 2 ∧ kSeaOk (kVw h 1)) ∧
      ∀ (h3 : kM), kS1 1 h h3 →
      Q (kWn (kVw h 1) a1 (h 1 13)) h3
    ) ∧ ((kb (0 ≤ a1 ∧ a1 < (2 : Int32))) = 0 →
      (vp_in (1 : Int32) 7) ∧
      ∀ h5 : kM, h5 = kErr h 87 (1 : Int32) →
      Q (-1000000000 - (1 : Int32)) h5
    ))) : Wp G d m_X7_wind (kEo G d m_X7_wind Q) 0 [.ref 0, .int a1] [] h := by
  refine wp_iload_n 1 dX7_wind_0 rfl rfl ?_
  refine wp_iconst (2 : Int32) 2 dX7_wind_1 kiconst_2 rfl ?_
  refine wp_cS (d - 1) 2 [.int a1, .int (2 : Int32)] [] 5 dX7_wind_2 rfl (lk_X7_58 rfl) (by omega) rfl rfl (Nat.le_of_ble_eq_true rfl) (sp_X7_within (by omega)  ?_)
  refine wp_if_ne 14 8 dX7_wind_5 rfl rfl ⟨fun c1 => ?_, fun c1 => ?_⟩
  · replace H := H.1 c1
    refine wp_aload_n 15 dX7_wind_14 rfl rfl ?_
    refine wp_getR 1 1 18 dX7_wind_15 rfl fl_X7_12 kd_0 rfl rfl rfl rfl ?_
    refine wp_iload_n 19 dX7_wind_18 rfl rfl ?_
    refine wp_aload_n 20 dX7_wind_19 rfl rfl ?_
    refine wp_getR 1 1 23 dX7_wind_20 rfl fl_X7_12 kd_0 rfl rfl rfl rfl ?_
    refine wp_getI 26 dX7_wind_23 rfl fl_X7_126 kd_1 rfl ?_
    have c2 := H.1; replace H := H.2
    refine wp_cV (d - 1) 2 [.int a1, .int (h 1 13)] [] 29 dX7_wind_26 rfl (lk_X7_138 rfl) (by omega) kd_1 rfl rfl rfl (Nat.le_of_ble_eq_true rfl) (sp_X2_windAt (by omega) kSea_is1 c2 (fun h3 eh3 => ?_))
    replace H := H h3 eh3
    exact wp_reti dX7_wind_29 rfl H
  · replace H := H.2 c1
    refine wp_aload_n 9 dX7_wind_8 rfl rfl ?_
    refine wp_iconst (1 : Int32) 10 dX7_wind_9 kiconst_1 rfl ?_
    have c4 := H.1; replace H := H.2
    refine wp_cV (d - 1) 1 [.int (1 : Int32)] [] 13 dX7_wind_10 rfl (lk_X7_62 rfl) (by omega) kd_0 rfl rfl rfl (Nat.le_of_ble_eq_true rfl) (sp_X7_error (by omega) c4 (fun h5 eh5 => ?_))
    replace H := H h5 eh5
    exact wp_reti dX7_wind_13 rfl H

theorem cg_X7_wind {G : kG} {d : Nat} {Q : Int32 → kM → Prop}  {a1 : Int32} {h : kM} (hd : 6 ≤ d)  (H :
    ((¬ (kb (0 ≤ a1 ∧ a1 < (2 : Int32))) = 0 →
      (vp_in a1 2 ∧ kSeaOk (kVw h 1)) ∧
      ∀ (h3 : kM), kS1 1 h h3 →
      Q (kWn (kVw h 1) a1 (h 1 13)) h3
    ) ∧ ((kb (0 ≤ a1 ∧ a1 < (2 : Int32))) = 0 →
      (vp_in (1 : Int32) 7) ∧
      ∀ h5 : kM, h5 = kErr h 87 (1 : Int32) →
      Q (-1000000000 - (1 : Int32)) h5
    ))) : Cal G d m_X7_wind [.ref 0, .int a1] h Q :=
  Cal.of [.ref 0, .int a1] (by decide +kernel) (Nat.le_of_ble_eq_true rfl) rfl (sg_X7_wind_0 hd  H)

theorem sg_X8_wind_0 {G : kG} {d : Nat} {Q : Int32 → kM → Prop}  {a1 : Int32} {h : kM} (hd : 7 ≤ d)  (H :
    (((kb ((0 : Int32) ≤ a1 ∧ a1 ≤ (1 : Int32))) = 0 →
      (vp_in (1 : Int32) 7) ∧
      ∀ h3 : kM, h3 = kErr h 93 (1 : Int32) →
      Q (-1000000000 - (1 : Int32)) h3
    ) ∧ (¬ ((kb ((0 : Int32) ≤ a1 ∧ a1 ≤ (1 : Int32))) = 0) →
      Cal G (d - 1) m_X8_windTo [.ref 88, .int a1] h (fun x4 h5 =>
        Q x4 h5
      )
    ))) : Wp G d m_X8_wind (kEo G d m_X8_wind Q) 0 [.ref 88, .int a1] [] h := by
  refine wp_iload_n 1 dX8_wind_0 rfl rfl ?_
  refine wp_iconst (0 : Int32) 2 dX8_wind_1 kiconst_0 rfl ?_
  refine wp_iconst (1 : Int32) 3 dX8_wind_2 kiconst_1 rfl ?_
  refine wp_cS (d - 1) 3 [.int a1, .int (0 : Int32), .int (1 : Int32)] [] 6 dX8_wind_3 rfl (lk_X8_50 rfl) (by omega) rfl rfl (Nat.le_of_ble_eq_true rfl) (sp_X8_in (by omega)  ?_)
  refine wp_if_eq 17 9 dX8_wind_6 rfl rfl ⟨fun c1 => ?_, fun c1 => ?_⟩
  · replace H := H.1 c1
    refine wp_aload_n 18 dX8_wind_17 rfl rfl ?_
    refine wp_iconst (1 : Int32) 19 dX8_wind_18 kiconst_1 rfl ?_
    have c2 := H.1; replace H := H.2
    refine wp_cV (d - 1) 1 [.int (1 : Int32)] [] 22 dX8_wind_19 rfl (lk_X8_62 rfl) (by omega) kd_88 rfl rfl rfl (Nat.le_of_ble_eq_true rfl) (sp_X8_error (by omega) c2 (fun h3 eh3 => ?_))
    replace H := H h3 eh3
    exact wp_reti dX8_wind_22 rfl H
  · replace H := H.2 c1
    refine wp_aload_n 10 dX8_wind_9 rfl rfl ?_
    refine wp_iload_n 11 dX8_wind_10 rfl rfl ?_
    refine wp_cV (d - 1) 1 [.int a1] [] 14 dX8_wind_11 rfl (lk_X8_181 rfl) (by omega) kd_88 rfl rfl rfl (Nat.le_of_ble_eq_true rfl) (H.mono (fun x4 h5 H => ?_))
    refine wp_goto 22 dX8_wind_14 rfl ?_
    exact wp_reti dX8_wind_22 rfl H

theorem cg_X8_wind {G : kG} {d : Nat} {Q : Int32 → kM → Prop}  {a1 : Int32} {h : kM} (hd : 7 ≤ d)  (H :
    (((kb ((0 : Int32) ≤ a1 ∧ a1 ≤ (1 : Int32))) = 0 →
      (vp_in (1 : Int32) 7) ∧
      ∀ h3 : kM, h3 = kErr h 93 (1 : Int32) →
      Q (-1000000000 - (1 : Int32)) h3
    ) ∧ (¬ ((kb ((0 : Int32) ≤ a1 ∧ a1 ≤ (1 : Int32))) = 0) →
      Cal G (d - 1) m_X8_windTo [.ref 88, .int a1] h (fun x4 h5 =>
        Q x4 h5
      )
    ))) : Cal G d m_X8_wind [.ref 88, .int a1] h Q :=
  Cal.of [.ref 88, .int a1] (by decide +kernel) (Nat.le_of_ble_eq_true rfl) rfl (sg_X8_wind_0 hd  H)

def at_X7_check_18 (G : kG) (d : Nat) (Q : Int32 → kM → Prop)  (v1 : Int32) (v2 : Int32) (h : kM) : Prop := Wp G d m_X7_check (kEo G d m_X7_check Q) 18 [.ref 0, .int v1, .int v2, .null] [] h
theorem sg_X7_check_0 {G : kG} {d : Nat} {Q : Int32 → kM → Prop}   {h : kM} (hd : 7 ≤ d)  (H :
    ∀ h1 : kM, h1 = kU h 1 15 (0 : Int32) →
    at_X7_check_18 G d Q (h 1 15) (0 : Int32) h1) : Wp G d m_X7_check (kEo G d m_X7_check Q) 0 [.ref 0, .null, .null, .null] [] h := by
  refine wp_aload_n 1 dX7_check_0 rfl rfl ?_
  refine wp_getR 1 1 4 dX7_check_1 rfl fl_X7_12 kd_0 rfl rfl rfl rfl ?_
  refine wp_getI 7 dX7_check_4 rfl fl_X7_275 kd_1 rfl ?_
  refine wp_istore_n 8 dX7_check_7 rfl (Nat.le_of_ble_eq_true rfl) rfl ?_
  refine wp_aload_n 9 dX7_check_8 rfl rfl ?_
  refine wp_getR 1 1 12 dX7_check_9 rfl fl_X7_12 kd_0 rfl rfl rfl rfl ?_
  refine wp_iconst (0 : Int32) 13 dX7_check_12 kiconst_0 rfl ?_
  refine wp_putI 16 dX7_check_13 rfl fl_X7_275 fin_2_15 kd_1 rfl ?_
  refine wp_nm (fun h1 eh1 => ?_)
  replace H := H h1 eh1
  refine wp_iconst (0 : Int32) 17 dX7_check_16 kiconst_0 rfl ?_
  refine wp_istore_n 18 dX7_check_17 rfl (Nat.le_of_ble_eq_true rfl) rfl ?_
  exact H

theorem cg_X7_check {G : kG} {d : Nat} {Q : Int32 → kM → Prop}   {h : kM} (hd : 7 ≤ d)  (H :
    ∀ h1 : kM, h1 = kU h 1 15 (0 : Int32) →
    at_X7_check_18 G d Q (h 1 15) (0 : Int32) h1) : Cal G d m_X7_check [.ref 0] h Q :=
  Cal.of [.ref 0, .null, .null, .null] (by decide +kernel) (Nat.le_of_ble_eq_true rfl) rfl (sg_X7_check_0 hd  H)

theorem sg_X7_check_18 {G : kG} {d : Nat} {Q : Int32 → kM → Prop}  {v1 : Int32} {v2 : Int32} {h : kM} (hd : 7 ≤ d)  (H :
    ((v1 ≤ v2 →
      Q (0 : Int32) h
    ) ∧ (¬ (v1 ≤ v2) →
      (vp_in v2 24) ∧
      (vp_in (0 : Int32) 2 ∧ kSeaOk (kVw h 1)) ∧
      ∀ (h4 : kM), kS1 1 h h4 →
      (vp_in (1 : Int32) 2 ∧ kSeaOk (kVw h4 1)) ∧
      ∀ (h6 : kM), kS1 1 h4 h6 →
      (((h 11 (v2).toNatClampNeg) = (((100 : Int32) * (kWn (kVw h 1) (0 : Int32) ((h 1 13) + v2))) + (kWn (kVw h4 1) (1 : Int32) ((h 1 13) + v2))) →
        at_X7_check_18 G d Q v1 (v2 + (1 : Int32)) h6
      ) ∧ (¬ ((h 11 (v2).toNatClampNeg) = (((100 : Int32) * (kWn (kVw h 1) (0 : Int32) ((h 1 13) + v2))) + (kWn (kVw h4 1) (1 : Int32) ((h 1 13) + v2)))) →
        Q ((1 : Int32) + v2) h6
      ))
    ))) : at_X7_check_18 G d Q v1 v2 h := by
  show Wp G d m_X7_check (kEo G d m_X7_check Q) 18 [.ref 0, .int v1, .int v2, .null] [] h
  refine wp_iload_n 19 dX7_check_18 rfl rfl ?_
  refine wp_iload_n 20 dX7_check_19 rfl rfl ?_
  refine wp_icmp_ge 77 23 dX7_check_20 rfl rfl ⟨fun c1 => ?_, fun c1 => ?_⟩
  · replace H := H.1 c1
    refine wp_iconst (0 : Int32) 78 dX7_check_77 kiconst_0 rfl ?_
    exact wp_reti dX7_check_78 rfl H
  · replace H := H.2 c1
    refine wp_aload_n 24 dX7_check_23 rfl rfl ?_
    refine wp_getR 1 1 27 dX7_check_24 rfl fl_X7_12 kd_0 rfl rfl rfl rfl ?_
    refine wp_getI 30 dX7_check_27 rfl fl_X7_126 kd_1 rfl ?_
    refine wp_iload_n 31 dX7_check_30 rfl rfl ?_
    refine wp_iadd 32 dX7_check_31 rfl ?_
    refine wp_istore_n 33 dX7_check_32 rfl (Nat.le_of_ble_eq_true rfl) rfl ?_
    refine wp_aload_n 34 dX7_check_33 rfl rfl ?_
    refine wp_getR 1 1 37 dX7_check_34 rfl fl_X7_12 kd_0 rfl rfl rfl rfl ?_
    refine wp_getR 10 11 40 dX7_check_37 rfl fl_X7_278 kd_1 rfl rfl rfl rfl ?_
    refine wp_iload_n 41 dX7_check_40 rfl rfl ?_
    have c2 := H.1; replace H := H.2
    refine wp_iald 42 dX7_check_41 rfl kd_11 c2 ?_
    refine wp_bipush (100 : Int32) 44 dX7_check_42 kbipush_100 rfl ?_
    refine wp_aload_n 45 dX7_check_44 rfl rfl ?_
    refine wp_getR 1 1 48 dX7_check_45 rfl fl_X7_12 kd_0 rfl rfl rfl rfl ?_
    refine wp_iconst (0 : Int32) 49 dX7_check_48 kiconst_0 rfl ?_
    refine wp_iload_n 50 dX7_check_49 rfl rfl ?_
    have c3 := H.1; replace H := H.2
    refine wp_cV (d - 1) 2 [.int (0 : Int32), .int ((h 1 13) + v2)] [.int (100 : Int32), .int (h 11 (v2).toNatClampNeg)] 53 dX7_check_50 rfl (lk_X7_138 rfl) (by omega) kd_1 rfl rfl rfl (Nat.le_of_ble_eq_true rfl) (sp_X2_windAt (by omega) kSea_is1 c3 (fun h4 eh4 => ?_))
    replace H := H h4 eh4
    refine wp_imul 54 dX7_check_53 rfl ?_
    refine wp_aload_n 55 dX7_check_54 rfl rfl ?_
    refine wp_getR 1 1 58 dX7_check_55 rfl fl_X7_12 kd_0 rfl rfl rfl rfl ?_
    refine wp_iconst (1 : Int32) 59 dX7_check_58 kiconst_1 rfl ?_
    refine wp_iload_n 60 dX7_check_59 rfl rfl ?_
    have c5 := H.1; replace H := H.2
    refine wp_cV (d - 1) 2 [.int (1 : Int32), .int ((h 1 13) + v2)] [.int ((100 : Int32) * (kWn (kVw h 1) (0 : Int32) ((h 1 13) + v2))), .int (h 11 (v2).toNatClampNeg)] 63 dX7_check_60 rfl (lk_X7_138 rfl) (by omega) kd_1 rfl rfl rfl (Nat.le_of_ble_eq_true rfl) (sp_X2_windAt (by omega) kSea_is1 c5 (fun h6 eh6 => ?_))
    replace H := H h6 eh6
    refine wp_iadd 64 dX7_check_63 rfl ?_
    refine wp_icmp_eq 71 67 dX7_check_64 rfl rfl ⟨fun c7 => ?_, fun c7 => ?_⟩
    · replace H := H.1 c7
      refine wp_iinc (1 : Int32) 74 dX7_check_71 rfl rfl kiconst_1 (Nat.le_of_ble_eq_true rfl) rfl ?_
      refine wp_goto 18 dX7_check_74 rfl ?_
      refine wp_drop 3 ?_
      exact H
    · replace H := H.2 c7
      refine wp_iconst (1 : Int32) 68 dX7_check_67 kiconst_1 rfl ?_
      refine wp_iload_n 69 dX7_check_68 rfl rfl ?_
      refine wp_iadd 70 dX7_check_69 rfl ?_
      exact wp_reti dX7_check_70 rfl H

def at_X8_check_21 (G : kG) (d : Nat) (Q : Int32 → kM → Prop)  (v1 : Int32) (v2 : Int32) (h : kM) : Prop := Wp G d m_X8_check (kEo G d m_X8_check Q) 21 [.ref 88, .int v1, .int v2] [] h
theorem sg_X8_check_0 {G : kG} {d : Nat} {Q : Int32 → kM → Prop}   {h : kM} (hd : 8 ≤ d)  (H :
    ∀ h1 : kM, h1 = kU h 89 5 (0 : Int32) →
    ∀ h2 : kM, h2 = kCp h1 89 92 0 0 147 →
    at_X8_check_21 G d Q (h 89 5) (0 : Int32) h2) : Wp G d m_X8_check (kEo G d m_X8_check Q) 0 [.ref 88, .null, .null] [] h := by
  refine wp_aload_n 1 dX8_check_0 rfl rfl ?_
  refine wp_getR 1 89 4 dX8_check_1 rfl fl_X8_7 kd_88 rfl rfl rfl rfl ?_
  refine wp_iconst (5 : Int32) 5 dX8_check_4 kiconst_5 rfl ?_
  refine wp_iald 6 dX8_check_5 rfl kd_89 (by unfold vp_in; decide) ?_
  refine wp_istore_n 7 dX8_check_6 rfl (Nat.le_of_ble_eq_true rfl) rfl ?_
  refine wp_aload_n 8 dX8_check_7 rfl rfl ?_
  refine wp_getR 1 89 11 dX8_check_8 rfl fl_X8_7 kd_88 rfl rfl rfl rfl ?_
  refine wp_iconst (5 : Int32) 12 dX8_check_11 kiconst_5 rfl ?_
  refine wp_iconst (0 : Int32) 13 dX8_check_12 kiconst_0 rfl ?_
  refine wp_iast 14 dX8_check_13 rfl kd_89 (by unfold vp_in; decide) ?_
  refine wp_nm (fun h1 eh1 => ?_)
  replace H := H h1 eh1
  refine wp_aload_n 15 dX8_check_14 rfl rfl ?_
  refine wp_iconst (0 : Int32) 16 dX8_check_15 kiconst_0 rfl ?_
  refine wp_cV (d - 1) 1 [.int (0 : Int32)] [] 19 dX8_check_16 rfl (lk_X8_200 rfl) (by omega) kd_88 rfl rfl rfl (Nat.le_of_ble_eq_true rfl) (sp_X8_layDown (by omega)  (fun h2 eh2 => ?_))
  replace H := H h2 eh2
  refine wp_iconst (0 : Int32) 20 dX8_check_19 kiconst_0 rfl ?_
  refine wp_istore_n 21 dX8_check_20 rfl (Nat.le_of_ble_eq_true rfl) rfl ?_
  exact H

theorem cg_X8_check {G : kG} {d : Nat} {Q : Int32 → kM → Prop}   {h : kM} (hd : 8 ≤ d)  (H :
    ∀ h1 : kM, h1 = kU h 89 5 (0 : Int32) →
    ∀ h2 : kM, h2 = kCp h1 89 92 0 0 147 →
    at_X8_check_21 G d Q (h 89 5) (0 : Int32) h2) : Cal G d m_X8_check [.ref 88] h Q :=
  Cal.of [.ref 88, .null, .null] (by decide +kernel) (Nat.le_of_ble_eq_true rfl) rfl (sg_X8_check_0 hd  H)

theorem sg_X8_check_21 {G : kG} {d : Nat} {Q : Int32 → kM → Prop}  {v1 : Int32} {v2 : Int32} {h : kM} (hd : 8 ≤ d)  (H :
    ((v1 ≤ v2 →
      ∀ h2 : kM, h2 = kCp h 92 89 0 0 147 →
      ((¬ v2 = v1 →
        Q ((1 : Int32) + v2) h2
      ) ∧ (v2 = v1 →
        Q (0 : Int32) h2
      ))
    ) ∧ (¬ (v1 ≤ v2) →
      (vp_in ((457 : Int32) + v2) 481) ∧
      Cal G (d - 1) m_X8_windTo [.ref 88, .int (0 : Int32)] h (fun x5 h6 =>
        Cal G (d - 1) m_X8_windTo [.ref 88, .int (1 : Int32)] h6 (fun x7 h8 =>
          ((¬ (h 89 (((457 : Int32) + v2)).toNatClampNeg) = (((100 : Int32) * x5) + x7) →
            ∀ h10 : kM, h10 = kCp h8 92 89 0 0 147 →
            ((¬ v2 = v1 →
              Q ((1 : Int32) + v2) h10
            ) ∧ (v2 = v1 →
              Q (0 : Int32) h10
            ))
          ) ∧ ((h 89 (((457 : Int32) + v2)).toNatClampNeg) = (((100 : Int32) * x5) + x7) →
            Cal G (d - 1) m_X8_hour [.ref 88] h8 (fun x12 h13 =>
              at_X8_check_21 G d Q v1 (v2 + (1 : Int32)) h13
            )
          ))
        )
      )
    ))) : at_X8_check_21 G d Q v1 v2 h := by
  show Wp G d m_X8_check (kEo G d m_X8_check Q) 21 [.ref 88, .int v1, .int v2] [] h
  refine wp_iload_n 22 dX8_check_21 rfl rfl ?_
  refine wp_iload_n 23 dX8_check_22 rfl rfl ?_
  refine wp_icmp_ge 63 26 dX8_check_23 rfl rfl ⟨fun c1 => ?_, fun c1 => ?_⟩
  · replace H := H.1 c1
    refine wp_aload_n 64 dX8_check_63 rfl rfl ?_
    refine wp_iconst (0 : Int32) 65 dX8_check_64 kiconst_0 rfl ?_
    refine wp_cV (d - 1) 1 [.int (0 : Int32)] [] 68 dX8_check_65 rfl (lk_X8_203 rfl) (by omega) kd_88 rfl rfl rfl (Nat.le_of_ble_eq_true rfl) (sp_X8_layBack (by omega)  (fun h2 eh2 => ?_))
    replace H := H h2 eh2
    refine wp_iload_n 69 dX8_check_68 rfl rfl ?_
    refine wp_iload_n 70 dX8_check_69 rfl rfl ?_
    refine wp_icmp_ne 77 73 dX8_check_70 rfl rfl ⟨fun c3 => ?_, fun c3 => ?_⟩
    · replace H := H.1 c3
      refine wp_iconst (1 : Int32) 78 dX8_check_77 kiconst_1 rfl ?_
      refine wp_iload_n 79 dX8_check_78 rfl rfl ?_
      refine wp_iadd 80 dX8_check_79 rfl ?_
      exact wp_reti dX8_check_80 rfl H
    · replace H := H.2 c3
      refine wp_iconst (0 : Int32) 74 dX8_check_73 kiconst_0 rfl ?_
      refine wp_goto 80 dX8_check_74 rfl ?_
      exact wp_reti dX8_check_80 rfl H
  · replace H := H.2 c1
    refine wp_aload_n 27 dX8_check_26 rfl rfl ?_
    refine wp_getR 1 89 30 dX8_check_27 rfl fl_X8_7 kd_88 rfl rfl rfl rfl ?_
    refine wp_sipush (457 : Int32) 33 dX8_check_30 ksipush_457 rfl ?_
    refine wp_iload_n 34 dX8_check_33 rfl rfl ?_
    refine wp_iadd 35 dX8_check_34 rfl ?_
    have c4 := H.1; replace H := H.2
    refine wp_iald 36 dX8_check_35 rfl kd_89 c4 ?_
    refine wp_bipush (100 : Int32) 38 dX8_check_36 kbipush_100 rfl ?_
    refine wp_aload_n 39 dX8_check_38 rfl rfl ?_
    refine wp_iconst (0 : Int32) 40 dX8_check_39 kiconst_0 rfl ?_
    refine wp_cV (d - 1) 1 [.int (0 : Int32)] [.int (100 : Int32), .int (h 89 (((457 : Int32) + v2)).toNatClampNeg)] 43 dX8_check_40 rfl (lk_X8_181 rfl) (by omega) kd_88 rfl rfl rfl (Nat.le_of_ble_eq_true rfl) (H.mono (fun x5 h6 H => ?_))
    refine wp_imul 44 dX8_check_43 rfl ?_
    refine wp_aload_n 45 dX8_check_44 rfl rfl ?_
    refine wp_iconst (1 : Int32) 46 dX8_check_45 kiconst_1 rfl ?_
    refine wp_cV (d - 1) 1 [.int (1 : Int32)] [.int ((100 : Int32) * x5), .int (h 89 (((457 : Int32) + v2)).toNatClampNeg)] 49 dX8_check_46 rfl (lk_X8_181 rfl) (by omega) kd_88 rfl rfl rfl (Nat.le_of_ble_eq_true rfl) (H.mono (fun x7 h8 H => ?_))
    refine wp_iadd 50 dX8_check_49 rfl ?_
    refine wp_icmp_ne 63 53 dX8_check_50 rfl rfl ⟨fun c9 => ?_, fun c9 => ?_⟩
    · replace H := H.1 c9
      refine wp_aload_n 64 dX8_check_63 rfl rfl ?_
      refine wp_iconst (0 : Int32) 65 dX8_check_64 kiconst_0 rfl ?_
      refine wp_cV (d - 1) 1 [.int (0 : Int32)] [] 68 dX8_check_65 rfl (lk_X8_203 rfl) (by omega) kd_88 rfl rfl rfl (Nat.le_of_ble_eq_true rfl) (sp_X8_layBack (by omega)  (fun h10 eh10 => ?_))
      replace H := H h10 eh10
      refine wp_iload_n 69 dX8_check_68 rfl rfl ?_
      refine wp_iload_n 70 dX8_check_69 rfl rfl ?_
      refine wp_icmp_ne 77 73 dX8_check_70 rfl rfl ⟨fun c11 => ?_, fun c11 => ?_⟩
      · replace H := H.1 c11
        refine wp_iconst (1 : Int32) 78 dX8_check_77 kiconst_1 rfl ?_
        refine wp_iload_n 79 dX8_check_78 rfl rfl ?_
        refine wp_iadd 80 dX8_check_79 rfl ?_
        exact wp_reti dX8_check_80 rfl H
      · replace H := H.2 c11
        refine wp_iconst (0 : Int32) 74 dX8_check_73 kiconst_0 rfl ?_
        refine wp_goto 80 dX8_check_74 rfl ?_
        exact wp_reti dX8_check_80 rfl H
    · replace H := H.2 c9
      refine wp_aload_n 54 dX8_check_53 rfl rfl ?_
      refine wp_cV (d - 1) 0 [] [] 57 dX8_check_54 rfl (lk_X8_187 rfl) (by omega) kd_88 rfl rfl rfl (Nat.le_of_ble_eq_true rfl) (H.mono (fun x12 h13 H => ?_))
      refine wp_iinc (1 : Int32) 60 dX8_check_57 rfl rfl kiconst_1 (Nat.le_of_ble_eq_true rfl) rfl ?_
      refine wp_goto 21 dX8_check_60 rfl ?_
      exact H

/-- behind a call that changed scratch alone (of the sea now, of the model's texts) -/
theorem kRel.scr {h h' : kM} (hR : kRel h) (ho : ∀ a, ¬ kScr a → h' a = h a) : kRel h' := by
  have n0 : ¬ kScr 0 := by unfold kScr; omega
  have n76 : ¬ kScr 76 := by unfold kScr; omega
  have n88 : ¬ kScr 88 := by unfold kScr; omega
  exact hR.same (fun a a1 _ _ _ => ho a a1) (by rw [ho 0 n0]) (by rw [ho 76 n76]) (by rw [ho 88 n88]) (by rw [ho 88 n88])
theorem st_wind (hd : 7 ≤ d) (hR : kRel h) (a1 : Int32) : kStp G d m_X7_wind m_X8_wind [.int a1] h := by
  obtain ⟨n, H, f, w, hS, hH⟩ := hR.n
  by_cases hc : 0 ≤ a1 ∧ a1 < 2
  · obtain ⟨c, hc2, rfl⟩ := iI (n := 2) (by decide) hc.1 hc.2
    have h01 : nI c = 0 ∨ nI c = 1 := by
      rcases (show c = 0 ∨ c = 1 by omega) with rfl | rfl
      · exact Or.inl rfl
      · exact Or.inr rfl
    refine cg_X7_wind (by omega) ⟨fun _ => ⟨⟨vp_in_nI hc2 (by decide), hS.ok⟩, fun h3 q3 => ?_⟩, fun q => absurd hc (kb_0.mp q)⟩
    have e89 : h3 89 = h 89 := q3 89 (by decide) (by decide)
    refine cg_X8_wind hd ⟨fun q => absurd (i1.mpr hc) (kb_0.mp q), fun _ => ?_⟩
    refine sp_X8_windTo (d := d - 1) (by omega) h01 (hS.congr2 e89) (fun h4 q4 => ⟨rfl, hR.scr (fun a ha => ?_)⟩)
    rw [q4 a (by unfold kScr at ha; omega) (by unfold kScr at ha; omega), q3 a (by unfold kScr at ha; omega) (by unfold kScr at ha; omega)]
  · refine cg_X7_wind (by omega) ⟨fun q => absurd (kb_n0.mp q) hc, fun _ => ⟨kin7 (n := 1) (by decide), fun h1 e1 => ?_⟩⟩
    exact cg_X8_wind hd ⟨fun _ => ⟨kin7 (n := 1) (by decide), kErrs hR h1 e1⟩, fun q => absurd (i1.mp (kb_n0.mp q)) hc⟩
end Ahead

