/-! hours: the call; ships counted -/
section Hours
variable {G : kG} {d : Nat} {Q : Int32 → kM → Prop} {h : kM}
/-- a row that the view behind an hour could have -/
theorem kSRn.hr {v : kM} {g : Nat → Int32} {n H f w : Nat} (hS : kSRn v g n H f w) (hH : H + 1 ≤ 100000) : ∃ g', kSRn (kHr v) g' n (H + 1) f w := by
  have hn := hS.1.1
  let y : Nat → Nat × Nat := fun p => kSai (v 1) (kPort v p) (kWn v 0 (v 0 13)) (kWn v 1 (v 0 13)) (kXy (v 3 p))
  let g' : Nat → Int32 := fun j => if j = 1 then nI (H + 1) else if 72 ≤ j ∧ j < 87 then (if (j - 72) % 3 = 0 then nI (y ((j - 72) / 3)).1 else if (j - 72) % 3 = 2 then nI (y ((j - 72) / 3)).2 else g j) else g j
  refine ⟨g', hS.re_hour (fun a a1 a2 a3 a4 a5 => ?_) (fun t t1 t2 => ?_) (fun j j1 j2 => ?_) ⟨hH, ?_, ?_⟩ (fun p hp => ?_)⟩
  · show (if a = 0 then _ else if a = 3 then _ else v a) = v a
    rw [if_neg a2, if_neg a4]
  · show upd (v 0) 13 _ t = v 0 t
    rw [pk_un t2]
  · show (if j = 1 then _ else if 72 ≤ j ∧ j < 87 then _ else g j) = g j
    rw [if_neg (by omega), if_neg j2]
  · show upd (v 0) 13 (v 0 13 + 1) 13 = _
    rw [pk_us, hS.2.1.2.1, nI_1]
  · show (if (1 : Nat) = 1 then _ else _) = _
    rw [if_pos rfl]
  · obtain ⟨x, x1, x2, x3, x4, x5, x6, x7, x8, x9⟩ := (hS.2.2.2.2.2.2.2.1 p hp).xy
    have l := kSai_lt (la := v 1) (q := kPort v p) (e := kWn v 0 (v 0 13)) (s := kWn v 1 (v 0 13)) x1 x2
    have hy : y p = kSai (v 1) (kPort v p) (kWn v 0 (v 0 13)) (kWn v 1 (v 0 13)) x := by show kSai _ _ _ _ (kXy (v 3 p)) = _; rw [x5]
    refine ⟨_, _, kPort v p, l.1, l.2, x3, ?_, ?_, ?_, ?_, ?_⟩
    · show (if p < kNs v then kGo1 v _ _ p else v 3 p) = _
      rw [hS.ns, if_pos hp]
      unfold kGo1
      rw [x5]
      rfl
    · show (if 72 + 3 * p = 1 then _ else if 72 ≤ 72 + 3 * p ∧ 72 + 3 * p < 87 then (if (72 + 3 * p - 72) % 3 = 0 then nI (y ((72 + 3 * p - 72) / 3)).1 else _) else _) = _
      rw [if_neg (by omega), if_pos (by omega), if_pos (by omega), show (72 + 3 * p - 72) / 3 = p by omega, hy]
    · show (if 74 + 3 * p = 1 then _ else if 72 ≤ 74 + 3 * p ∧ 74 + 3 * p < 87 then (if (74 + 3 * p - 72) % 3 = 0 then _ else if (74 + 3 * p - 72) % 3 = 2 then nI (y ((74 + 3 * p - 72) / 3)).2 else _) else _) = _
      rw [if_neg (by omega), if_pos (by omega), if_neg (by omega), if_pos (by omega), show (74 + 3 * p - 72) / 3 = p by omega, hy]
    · exact x8
    · show (if 73 + 3 * p = 1 then _ else if 72 ≤ 73 + 3 * p ∧ 73 + 3 * p < 87 then (if (73 + 3 * p - 72) % 3 = 0 then _ else if (73 + 3 * p - 72) % 3 = 2 then _ else g (73 + 3 * p)) else _) = _
      rw [if_neg (by omega), if_pos (by omega), if_neg (by omega), if_neg (by omega)]
      exact x9
theorem kSRn.hrN {v : kM} {g : Nat → Int32} {n H f w : Nat} (hS : kSRn v g n H f w) : ∀ (i : Nat), H + i ≤ 100000 → ∃ g', kSRn (kHrN v i) g' n (H + i) f w
  | 0, _ => ⟨g, hS⟩
  | i + 1, hH => by
    obtain ⟨g1, h1⟩ := hS.hrN i (by omega)
    exact h1.hr (by omega)
/-- ships counted by what they are -/
def kCn (v : kM) (st : Int32) (n : Nat) : Int32 := kSum (fun p => if nI (kXy (v 3 p)).2 = st then 1 else 0) 0 n
def at_X2_shipsThatAre_4 (G : kG) (d : Nat) (Q : Int32 → kM → Prop) (b : Nat) (v1 : Int32) (v2 : Int32) (v3 : Int32) (h : kM) : Prop := Wp G d m_X2_shipsThatAre (kEo G d m_X2_shipsThatAre Q) 4 [.ref b, .int v1, .int v2, .int v3] [] h
theorem sg_X2_shipsThatAre_0 {G : kG} {d : Nat} {Q : Int32 → kM → Prop} {b : Nat} {a1 : Int32} {h : kM} (hd : 2 ≤ d) (k_b : kSea b) (H :
    at_X2_shipsThatAre_4 G d Q b a1 (0 : Int32) (0 : Int32) h) : Wp G d m_X2_shipsThatAre (kEo G d m_X2_shipsThatAre Q) 0 [.ref b, .int a1, .null, .null] [] h := by
  refine wp_iconst (0 : Int32) 1 dX2_shipsThatAre_0 kiconst_0 rfl ?_
  refine wp_istore_n 2 dX2_shipsThatAre_1 rfl (Nat.le_of_ble_eq_true rfl) rfl ?_
  refine wp_iconst (0 : Int32) 3 dX2_shipsThatAre_2 kiconst_0 rfl ?_
  refine wp_istore_n 4 dX2_shipsThatAre_3 rfl (Nat.le_of_ble_eq_true rfl) rfl ?_
  exact H

theorem cg_X2_shipsThatAre {G : kG} {d : Nat} {Q : Int32 → kM → Prop} {b : Nat} {a1 : Int32} {h : kM} (hd : 2 ≤ d) (k_b : kSea b) (H :
    at_X2_shipsThatAre_4 G d Q b a1 (0 : Int32) (0 : Int32) h) : Cal G d m_X2_shipsThatAre [.ref b, .int a1] h Q :=
  Cal.of [.ref b, .int a1, .null, .null] (by decide +kernel) (Nat.le_of_ble_eq_true rfl) rfl (sg_X2_shipsThatAre_0 hd k_b H)

theorem sg_X2_shipsThatAre_4 {G : kG} {d : Nat} {Q : Int32 → kM → Prop} {b : Nat} {v1 : Int32} {v2 : Int32} {v3 : Int32} {h : kM} (hd : 2 ≤ d) (k_b : kSea b) (H :
    (((h b 12) ≤ v3 →
      Q v2 h
    ) ∧ (¬ ((h b 12) ≤ v3) →
      (vp_in v3 5) ∧
      ((¬ ((h (b + 3) (v3).toNatClampNeg) / 64) = v1 →
        at_X2_shipsThatAre_4 G d Q b v1 v2 (v3 + (1 : Int32)) h
      ) ∧ (((h (b + 3) (v3).toNatClampNeg) / 64) = v1 →
        at_X2_shipsThatAre_4 G d Q b v1 (v2 + (1 : Int32)) (v3 + (1 : Int32)) h
      ))
    ))) : at_X2_shipsThatAre_4 G d Q b v1 v2 v3 h := by
  show Wp G d m_X2_shipsThatAre (kEo G d m_X2_shipsThatAre Q) 4 [.ref b, .int v1, .int v2, .int v3] [] h
  refine wp_iload_n 5 dX2_shipsThatAre_4 rfl rfl ?_
  refine wp_aload_n 6 dX2_shipsThatAre_5 rfl rfl ?_
  refine wp_getI 9 dX2_shipsThatAre_6 rfl fl_X2_66 (kSea_0 k_b) rfl ?_
  refine wp_icmp_ge 34 12 dX2_shipsThatAre_9 rfl rfl ⟨fun c1 => ?_, fun c1 => ?_⟩
  · replace H := H.1 c1
    refine wp_iload_n 35 dX2_shipsThatAre_34 rfl rfl ?_
    exact wp_reti dX2_shipsThatAre_35 rfl H
  · replace H := H.2 c1
    refine wp_aload_n 13 dX2_shipsThatAre_12 rfl rfl ?_
    refine wp_getR 3 (b + 3) 16 dX2_shipsThatAre_13 rfl fl_X2_18 (kSea_0 k_b) rfl rfl rfl rfl ?_
    refine wp_iload_n 17 dX2_shipsThatAre_16 rfl rfl ?_
    have c2 := H.1; replace H := H.2
    refine wp_iald 18 dX2_shipsThatAre_17 rfl (kSea_3 k_b) c2 ?_
    refine wp_cN (d - 1) 1 [.int (h (b + 3) (v3).toNatClampNeg)] [] 21 dX2_shipsThatAre_18 rfl (lk_X2_90 rfl) (by omega) rfl rfl (Nat.le_of_ble_eq_true rfl) (sp_X7_stateOf (by omega)  ?_)
    refine wp_iload_n 22 dX2_shipsThatAre_21 rfl rfl ?_
    refine wp_icmp_ne 28 25 dX2_shipsThatAre_22 rfl rfl ⟨fun c3 => ?_, fun c3 => ?_⟩
    · replace H := H.1 c3
      refine wp_iinc (1 : Int32) 31 dX2_shipsThatAre_28 rfl rfl kiconst_1 (Nat.le_of_ble_eq_true rfl) rfl ?_
      refine wp_goto 4 dX2_shipsThatAre_31 rfl ?_
      exact H
    · replace H := H.2 c3
      refine wp_iinc (1 : Int32) 28 dX2_shipsThatAre_25 rfl rfl kiconst_1 (Nat.le_of_ble_eq_true rfl) rfl ?_
      refine wp_iinc (1 : Int32) 31 dX2_shipsThatAre_28 rfl rfl kiconst_1 (Nat.le_of_ble_eq_true rfl) rfl ?_
      refine wp_goto 4 dX2_shipsThatAre_31 rfl ?_
      exact H

def at_X8_standing_4 (G : kG) (d : Nat) (Q : Int32 → kM → Prop)  (v1 : Int32) (v2 : Int32) (v3 : Int32) (h : kM) : Prop := Wp G d m_X8_standing (kEo G d m_X8_standing Q) 4 [.ref 88, .int v1, .int v2, .int v3] [] h
theorem sg_X8_standing_0 {G : kG} {d : Nat} {Q : Int32 → kM → Prop}  {a1 : Int32} {h : kM} (hd : 2 ≤ d)  (H :
    at_X8_standing_4 G d Q a1 (0 : Int32) (0 : Int32) h) : Wp G d m_X8_standing (kEo G d m_X8_standing Q) 0 [.ref 88, .int a1, .null, .null] [] h := by
  refine wp_iconst (0 : Int32) 1 dX8_standing_0 kiconst_0 rfl ?_
  refine wp_istore_n 2 dX8_standing_1 rfl (Nat.le_of_ble_eq_true rfl) rfl ?_
  refine wp_iconst (0 : Int32) 3 dX8_standing_2 kiconst_0 rfl ?_
  refine wp_istore_n 4 dX8_standing_3 rfl (Nat.le_of_ble_eq_true rfl) rfl ?_
  exact H

theorem cg_X8_standing {G : kG} {d : Nat} {Q : Int32 → kM → Prop}  {a1 : Int32} {h : kM} (hd : 2 ≤ d)  (H :
    at_X8_standing_4 G d Q a1 (0 : Int32) (0 : Int32) h) : Cal G d m_X8_standing [.ref 88, .int a1] h Q :=
  Cal.of [.ref 88, .int a1, .null, .null] (by decide +kernel) (Nat.le_of_ble_eq_true rfl) rfl (sg_X8_standing_0 hd  H)

theorem sg_X8_standing_4 {G : kG} {d : Nat} {Q : Int32 → kM → Prop}  {v1 : Int32} {v2 : Int32} {v3 : Int32} {h : kM} (hd : 2 ≤ d)  (H :
    (((h 89 0) ≤ v3 →
      Q v2 h
    ) ∧ (¬ ((h 89 0) ≤ v3) →
      (okO v3 (2 : Int32)) ∧
      ((¬ (mOf (h 89) v3 (2 : Int32)) = v1 →
        at_X8_standing_4 G d Q v1 (v2 + (0 : Int32)) (v3 + (1 : Int32)) h
      ) ∧ ((mOf (h 89) v3 (2 : Int32)) = v1 →
        at_X8_standing_4 G d Q v1 (v2 + (1 : Int32)) (v3 + (1 : Int32)) h
      ))
    ))) : at_X8_standing_4 G d Q v1 v2 v3 h := by
  show Wp G d m_X8_standing (kEo G d m_X8_standing Q) 4 [.ref 88, .int v1, .int v2, .int v3] [] h
  refine wp_iload_n 5 dX8_standing_4 rfl rfl ?_
  refine wp_aload_n 6 dX8_standing_5 rfl rfl ?_
  refine wp_getR 1 89 9 dX8_standing_6 rfl fl_X8_7 kd_88 rfl rfl rfl rfl ?_
  refine wp_iconst (0 : Int32) 10 dX8_standing_9 kiconst_0 rfl ?_
  refine wp_iald 11 dX8_standing_10 rfl kd_89 (by unfold vp_in; decide) ?_
  refine wp_icmp_ge 38 14 dX8_standing_11 rfl rfl ⟨fun c1 => ?_, fun c1 => ?_⟩
  · replace H := H.1 c1
    refine wp_iload_n 39 dX8_standing_38 rfl rfl ?_
    exact wp_reti dX8_standing_39 rfl H
  · replace H := H.2 c1
    refine wp_iload_n 15 dX8_standing_14 rfl rfl ?_
    refine wp_aload_n 16 dX8_standing_15 rfl rfl ?_
    refine wp_iload_n 17 dX8_standing_16 rfl rfl ?_
    refine wp_iconst (2 : Int32) 18 dX8_standing_17 kiconst_2 rfl ?_
    have c2 := H.1; replace H := H.2
    refine wp_cV (d - 1) 2 [.int v3, .int (2 : Int32)] [.int v2] 21 dX8_standing_18 rfl (lk_X8_146 rfl) (by omega) kd_88 rfl rfl rfl (Nat.le_of_ble_eq_true rfl) (sp_X8_of (by omega) c2 ?_)
    refine wp_iload_n 22 dX8_standing_21 rfl rfl ?_
    refine wp_icmp_ne 29 25 dX8_standing_22 rfl rfl ⟨fun c3 => ?_, fun c3 => ?_⟩
    · replace H := H.1 c3
      refine wp_iconst (0 : Int32) 30 dX8_standing_29 kiconst_0 rfl ?_
      refine wp_iadd 31 dX8_standing_30 rfl ?_
      refine wp_istore_n 32 dX8_standing_31 rfl (Nat.le_of_ble_eq_true rfl) rfl ?_
      refine wp_iinc (1 : Int32) 35 dX8_standing_32 rfl rfl kiconst_1 (Nat.le_of_ble_eq_true rfl) rfl ?_
      refine wp_goto 4 dX8_standing_35 rfl ?_
      exact H
    · replace H := H.2 c3
      refine wp_iconst (1 : Int32) 26 dX8_standing_25 kiconst_1 rfl ?_
      refine wp_goto 30 dX8_standing_26 rfl ?_
      refine wp_iadd 31 dX8_standing_30 rfl ?_
      refine wp_istore_n 32 dX8_standing_31 rfl (Nat.le_of_ble_eq_true rfl) rfl ?_
      refine wp_iinc (1 : Int32) 35 dX8_standing_32 rfl rfl kiconst_1 (Nat.le_of_ble_eq_true rfl) rfl ?_
      refine wp_goto 4 dX8_standing_35 rfl ?_
      exact H

theorem lp_ships (hd : 2 ≤ d) {b : Nat} (hb : kSea b) {st : Int32} {g : Nat → Int32} {n H f w : Nat} (hS : kSRn (kVw h b) g n H f w) (k : Q (kCn (kVw h b) st n) h) : ∀ (m i : Nat), i + m = n → at_X2_shipsThatAre_4 G d Q b st (kCn (kVw h b) st i) (nI i) h := by
  have hn := hS.1.1
  have e0 : h b 12 = nI n := hS.1.2.1
  intro m
  induction m with
  | zero =>
    intro i hi
    have hi2 : i = n := by omega
    subst hi2
    exact sg_X2_shipsThatAre_4 hd hb ⟨fun _ => k, fun q => absurd (by rw [e0]; exact nI_le (Nat.le_refl _) (by omega)) q⟩
  | succ m ih =>
    intro i hi
    obtain ⟨x, x1, x2, x3, x4, x5, x6, x7, x8, x9⟩ := (hS.2.2.2.2.2.2.2.1 i (by omega)).xy
    have x4 : h (b + 3) i = kPl x := x4
    have st1 := ih (i + 1) (by omega)
    have e1 : kCn (kVw h b) st (i + 1) = kCn (kVw h b) st i + (if nI (kXy (kVw h b 3 i)).2 = st then 1 else 0) := rfl
    rw [e1, x5] at st1
    refine sg_X2_shipsThatAre_4 hd hb ⟨fun q => absurd q (by rw [e0]; exact ltn (nI_lt (by omega) (by omega))), fun _ => ⟨vp_in_nI (by omega) (by decide), ?_⟩⟩
    have e64 : kPl x / 64 = nI x.2 := iD64 x2 x1
    rw [nI_clamp (by omega), x4, e64, nI_1]
    refine ⟨fun q => ?_, fun q => ?_⟩
    · rw [if_neg q, Int32.add_zero] at st1
      exact st1
    · rw [if_pos q] at st1
      exact st1
theorem sp_X2_shipsThatAre (hd : 2 ≤ d) {b : Nat} (hb : kSea b) {st : Int32} {g : Nat → Int32} {n H f w : Nat} (hS : kSRn (kVw h b) g n H f w) (k : Q (kCn (kVw h b) st n) h) : Cal G d m_X2_shipsThatAre [.ref b, .int st] h Q :=
  cg_X2_shipsThatAre hd hb (lp_ships hd hb hS k n 0 (by omega))
theorem lp_stand (hd : 2 ≤ d) {v : kM} {st : Int32} {n H f w : Nat} (hS : kSRn v (h 89) n H f w) (k : Q (kCn v st n) h) : ∀ (m i : Nat), i + m = n → at_X8_standing_4 G d Q st (kCn v st i) (nI i) h := by
  have hn := hS.1.1
  have e0 : h 89 0 = nI n := hS.1.2.2
  intro m
  induction m with
  | zero =>
    intro i hi
    have hi2 : i = n := by omega
    subst hi2
    exact sg_X8_standing_4 hd ⟨fun _ => k, fun q => absurd (by rw [e0]; exact nI_le (Nat.le_refl _) (by omega)) q⟩
  | succ m ih =>
    intro i hi
    obtain ⟨x, x1, x2, x3, x4, x5, x6, x7, x8, x9⟩ := (hS.2.2.2.2.2.2.2.1 i (by omega)).xy
    have st1 := ih (i + 1) (by omega)
    have e1 : kCn v st (i + 1) = kCn v st i + (if nI (kXy (v 3 i)).2 = st then 1 else 0) := rfl
    rw [e1, x5] at st1
    refine sg_X8_standing_4 hd ⟨fun q => absurd q (by rw [e0]; exact ltn (nI_lt (by omega) (by omega))), fun _ => ⟨okO_n (w := 2) (by omega) (by decide), ?_⟩⟩
    rw [mOf_2 (by omega), x7, nI_1]
    refine ⟨fun q => ?_, fun q => ?_⟩
    · rw [if_neg q] at st1
      exact st1
    · rw [if_pos q] at st1
      exact st1
theorem sp_X8_standing (hd : 2 ≤ d) {v : kM} {st : Int32} {n H f w : Nat} (hS : kSRn v (h 89) n H f w) (k : Q (kCn v st n) h) : Cal G d m_X8_standing [.ref 88, .int st] h Q :=
  cg_X8_standing hd (lp_stand hd hS k n 0 (by omega))
theorem kCn_eq {v v' : kM} (e : kVEq v v') (st : Int32) (n : Nat) : kCn v' st n = kCn v st n := by
  unfold kCn
  rw [e 3 (by decide) (by decide)]
def at_X7_hours_39 (G : kG) (d : Nat) (Q : Int32 → kM → Prop)  (v1 : Int32) (v2 : Int32) (h : kM) : Prop := Wp G d m_X7_hours (kEo G d m_X7_hours Q) 39 [.ref 0, .int v1, .int v2] [] h
theorem sg_X7_hours_0 {G : kG} {d : Nat} {Q : Int32 → kM → Prop}  {a1 : Int32} {h : kM} (hd : 7 ≤ d)  (H :
    ((¬ (kb ((1 : Int32) ≤ a1 ∧ a1 ≤ (48 : Int32))) = 0 →
      ((((h 1 13) + a1) ≤ (9999 : Int32) →
        at_X7_hours_39 G d Q a1 (0 : Int32) h
      ) ∧ (¬ (((h 1 13) + a1) ≤ (9999 : Int32)) →
        (vp_in (3 : Int32) 7) ∧
        ∀ h4 : kM, h4 = kErr h 87 (3 : Int32) →
        Q (-1000000000 - (3 : Int32)) h4
      ))
    ) ∧ ((kb ((1 : Int32) ≤ a1 ∧ a1 ≤ (48 : Int32))) = 0 →
      (vp_in (1 : Int32) 7) ∧
      ∀ h6 : kM, h6 = kErr h 87 (1 : Int32) →
      Q (-1000000000 - (1 : Int32)) h6
    ))) : Wp G d m_X7_hours (kEo G d m_X7_hours Q) 0 [.ref 0, .int a1, .null] [] h := by
  refine wp_iload_n 1 dX7_hours_0 rfl rfl ?_
  refine wp_iconst (1 : Int32) 2 dX7_hours_1 kiconst_1 rfl ?_
  refine wp_bipush (48 : Int32) 4 dX7_hours_2 kbipush_48 rfl ?_
  refine wp_cS (d - 1) 3 [.int a1, .int (1 : Int32), .int (48 : Int32)] [] 7 dX7_hours_4 rfl (lk_X7_69 rfl) (by omega) rfl rfl (Nat.le_of_ble_eq_true rfl) (sp_X7_between (by omega)  ?_)
  refine wp_if_ne 16 10 dX7_hours_7 rfl rfl ⟨fun c1 => ?_, fun c1 => ?_⟩
  · replace H := H.1 c1
    refine wp_aload_n 17 dX7_hours_16 rfl rfl ?_
    refine wp_getR 1 1 20 dX7_hours_17 rfl fl_X7_12 kd_0 rfl rfl rfl rfl ?_
    refine wp_getI 23 dX7_hours_20 rfl fl_X7_126 kd_1 rfl ?_
    refine wp_iload_n 24 dX7_hours_23 rfl rfl ?_
    refine wp_iadd 25 dX7_hours_24 rfl ?_
    refine wp_sipush (9999 : Int32) 28 dX7_hours_25 ksipush_9999 rfl ?_
    refine wp_icmp_le 37 31 dX7_hours_28 rfl rfl ⟨fun c2 => ?_, fun c2 => ?_⟩
    · replace H := H.1 c2
      refine wp_iconst (0 : Int32) 38 dX7_hours_37 kiconst_0 rfl ?_
      refine wp_istore_n 39 dX7_hours_38 rfl (Nat.le_of_ble_eq_true rfl) rfl ?_
      exact H
    · replace H := H.2 c2
      refine wp_aload_n 32 dX7_hours_31 rfl rfl ?_
      refine wp_iconst (3 : Int32) 33 dX7_hours_32 kiconst_3 rfl ?_
      have c3 := H.1; replace H := H.2
      refine wp_cV (d - 1) 1 [.int (3 : Int32)] [] 36 dX7_hours_33 rfl (lk_X7_62 rfl) (by omega) kd_0 rfl rfl rfl (Nat.le_of_ble_eq_true rfl) (sp_X7_error (by omega) c3 (fun h4 eh4 => ?_))
      replace H := H h4 eh4
      exact wp_reti dX7_hours_36 rfl H
  · replace H := H.2 c1
    refine wp_aload_n 11 dX7_hours_10 rfl rfl ?_
    refine wp_iconst (1 : Int32) 12 dX7_hours_11 kiconst_1 rfl ?_
    have c5 := H.1; replace H := H.2
    refine wp_cV (d - 1) 1 [.int (1 : Int32)] [] 15 dX7_hours_12 rfl (lk_X7_62 rfl) (by omega) kd_0 rfl rfl rfl (Nat.le_of_ble_eq_true rfl) (sp_X7_error (by omega) c5 (fun h6 eh6 => ?_))
    replace H := H h6 eh6
    exact wp_reti dX7_hours_15 rfl H

theorem cg_X7_hours {G : kG} {d : Nat} {Q : Int32 → kM → Prop}  {a1 : Int32} {h : kM} (hd : 7 ≤ d)  (H :
    ((¬ (kb ((1 : Int32) ≤ a1 ∧ a1 ≤ (48 : Int32))) = 0 →
      ((((h 1 13) + a1) ≤ (9999 : Int32) →
        at_X7_hours_39 G d Q a1 (0 : Int32) h
      ) ∧ (¬ (((h 1 13) + a1) ≤ (9999 : Int32)) →
        (vp_in (3 : Int32) 7) ∧
        ∀ h4 : kM, h4 = kErr h 87 (3 : Int32) →
        Q (-1000000000 - (3 : Int32)) h4
      ))
    ) ∧ ((kb ((1 : Int32) ≤ a1 ∧ a1 ≤ (48 : Int32))) = 0 →
      (vp_in (1 : Int32) 7) ∧
      ∀ h6 : kM, h6 = kErr h 87 (1 : Int32) →
      Q (-1000000000 - (1 : Int32)) h6
    ))) : Cal G d m_X7_hours [.ref 0, .int a1] h Q :=
  Cal.of [.ref 0, .int a1, .null] (by decide +kernel) (Nat.le_of_ble_eq_true rfl) rfl (sg_X7_hours_0 hd  H)

theorem sg_X7_hours_39 {G : kG} {d : Nat} {Q : Int32 → kM → Prop}  {v1 : Int32} {v2 : Int32} {h : kM} (hd : 7 ≤ d)  (H :
    ((v1 ≤ v2 →
      Cal G (d - 1) m_X2_shipsThatAre [.ref 1, .int (2 : Int32)] h (fun x2 h3 =>
        Q x2 h3
      )
    ) ∧ (¬ (v1 ≤ v2) →
      Cal G (d - 1) m_X2_passHour [.ref 1] h (fun x4 h5 =>
        at_X7_hours_39 G d Q v1 (v2 + (1 : Int32)) h5
      )
    ))) : at_X7_hours_39 G d Q v1 v2 h := by
  show Wp G d m_X7_hours (kEo G d m_X7_hours Q) 39 [.ref 0, .int v1, .int v2] [] h
  refine wp_iload_n 40 dX7_hours_39 rfl rfl ?_
  refine wp_iload_n 41 dX7_hours_40 rfl rfl ?_
  refine wp_icmp_ge 57 44 dX7_hours_41 rfl rfl ⟨fun c1 => ?_, fun c1 => ?_⟩
  · replace H := H.1 c1
    refine wp_aload_n 58 dX7_hours_57 rfl rfl ?_
    refine wp_getR 1 1 61 dX7_hours_58 rfl fl_X7_12 kd_0 rfl rfl rfl rfl ?_
    refine wp_iconst (2 : Int32) 62 dX7_hours_61 kiconst_2 rfl ?_
    refine wp_cV (d - 1) 1 [.int (2 : Int32)] [] 65 dX7_hours_62 rfl (lk_X7_177 rfl) (by omega) kd_1 rfl rfl rfl (Nat.le_of_ble_eq_true rfl) (H.mono (fun x2 h3 H => ?_))
    exact wp_reti dX7_hours_65 rfl H
  · replace H := H.2 c1
    refine wp_aload_n 45 dX7_hours_44 rfl rfl ?_
    refine wp_getR 1 1 48 dX7_hours_45 rfl fl_X7_12 kd_0 rfl rfl rfl rfl ?_
    refine wp_cV (d - 1) 0 [] [] 51 dX7_hours_48 rfl (lk_X7_174 rfl) (by omega) kd_1 rfl rfl rfl (Nat.le_of_ble_eq_true rfl) (H.mono (fun x4 h5 H => ?_))
    refine wp_iinc (1 : Int32) 54 dX7_hours_51 rfl rfl kiconst_1 (Nat.le_of_ble_eq_true rfl) rfl ?_
    refine wp_goto 39 dX7_hours_54 rfl ?_
    exact H

theorem sg_X8_hours_0 {G : kG} {d : Nat} {Q : Int32 → kM → Prop}  {a1 : Int32} {h : kM} (hd : 9 ≤ d)  (H :
    ((¬ (kb ((1 : Int32) ≤ a1 ∧ a1 ≤ (48 : Int32))) = 0 →
      ((((h 89 1) + a1) ≤ (9999 : Int32) →
        Cal G (d - 1) m_X8_go [.ref 88, .int a1] h (fun x3 h4 =>
          Cal G (d - 1) m_X8_standing [.ref 88, .int (2 : Int32)] h4 (fun x5 h6 =>
            Q x5 h6
          )
        )
      ) ∧ (¬ (((h 89 1) + a1) ≤ (9999 : Int32)) →
        (vp_in (3 : Int32) 7) ∧
        ∀ h8 : kM, h8 = kErr h 93 (3 : Int32) →
        Q (-1000000000 - (3 : Int32)) h8
      ))
    ) ∧ ((kb ((1 : Int32) ≤ a1 ∧ a1 ≤ (48 : Int32))) = 0 →
      (vp_in (1 : Int32) 7) ∧
      ∀ h10 : kM, h10 = kErr h 93 (1 : Int32) →
      Q (-1000000000 - (1 : Int32)) h10
    ))) : Wp G d m_X8_hours (kEo G d m_X8_hours Q) 0 [.ref 88, .int a1] [] h := by
  refine wp_iload_n 1 dX8_hours_0 rfl rfl ?_
  refine wp_iconst (1 : Int32) 2 dX8_hours_1 kiconst_1 rfl ?_
  refine wp_bipush (48 : Int32) 4 dX8_hours_2 kbipush_48 rfl ?_
  refine wp_cS (d - 1) 3 [.int a1, .int (1 : Int32), .int (48 : Int32)] [] 7 dX8_hours_4 rfl (lk_X8_50 rfl) (by omega) rfl rfl (Nat.le_of_ble_eq_true rfl) (sp_X8_in (by omega)  ?_)
  refine wp_if_ne 16 10 dX8_hours_7 rfl rfl ⟨fun c1 => ?_, fun c1 => ?_⟩
  · replace H := H.1 c1
    refine wp_aload_n 17 dX8_hours_16 rfl rfl ?_
    refine wp_getR 1 89 20 dX8_hours_17 rfl fl_X8_7 kd_88 rfl rfl rfl rfl ?_
    refine wp_iconst (1 : Int32) 21 dX8_hours_20 kiconst_1 rfl ?_
    refine wp_iald 22 dX8_hours_21 rfl kd_89 (by unfold vp_in; decide) ?_
    refine wp_iload_n 23 dX8_hours_22 rfl rfl ?_
    refine wp_iadd 24 dX8_hours_23 rfl ?_
    refine wp_sipush (9999 : Int32) 27 dX8_hours_24 ksipush_9999 rfl ?_
    refine wp_icmp_le 36 30 dX8_hours_27 rfl rfl ⟨fun c2 => ?_, fun c2 => ?_⟩
    · replace H := H.1 c2
      refine wp_aload_n 37 dX8_hours_36 rfl rfl ?_
      refine wp_iload_n 38 dX8_hours_37 rfl rfl ?_
      refine wp_cV (d - 1) 1 [.int a1] [] 41 dX8_hours_38 rfl (lk_X8_190 rfl) (by omega) kd_88 rfl rfl rfl (Nat.le_of_ble_eq_true rfl) (H.mono (fun x3 h4 H => ?_))
      refine wp_aload_n 42 dX8_hours_41 rfl rfl ?_
      refine wp_iconst (2 : Int32) 43 dX8_hours_42 kiconst_2 rfl ?_
      refine wp_cV (d - 1) 1 [.int (2 : Int32)] [] 46 dX8_hours_43 rfl (lk_X8_193 rfl) (by omega) kd_88 rfl rfl rfl (Nat.le_of_ble_eq_true rfl) (H.mono (fun x5 h6 H => ?_))
      exact wp_reti dX8_hours_46 rfl H
    · replace H := H.2 c2
      refine wp_aload_n 31 dX8_hours_30 rfl rfl ?_
      refine wp_iconst (3 : Int32) 32 dX8_hours_31 kiconst_3 rfl ?_
      have c7 := H.1; replace H := H.2
      refine wp_cV (d - 1) 1 [.int (3 : Int32)] [] 35 dX8_hours_32 rfl (lk_X8_62 rfl) (by omega) kd_88 rfl rfl rfl (Nat.le_of_ble_eq_true rfl) (sp_X8_error (by omega) c7 (fun h8 eh8 => ?_))
      replace H := H h8 eh8
      exact wp_reti dX8_hours_35 rfl H
  · replace H := H.2 c1
    refine wp_aload_n 11 dX8_hours_10 rfl rfl ?_
    refine wp_iconst (1 : Int32) 12 dX8_hours_11 kiconst_1 rfl ?_
    have c9 := H.1; replace H := H.2
    refine wp_cV (d - 1) 1 [.int (1 : Int32)] [] 15 dX8_hours_12 rfl (lk_X8_62 rfl) (by omega) kd_88 rfl rfl rfl (Nat.le_of_ble_eq_true rfl) (sp_X8_error (by omega) c9 (fun h10 eh10 => ?_))
    replace H := H h10 eh10
    exact wp_reti dX8_hours_15 rfl H

theorem cg_X8_hours {G : kG} {d : Nat} {Q : Int32 → kM → Prop}  {a1 : Int32} {h : kM} (hd : 9 ≤ d)  (H :
    ((¬ (kb ((1 : Int32) ≤ a1 ∧ a1 ≤ (48 : Int32))) = 0 →
      ((((h 89 1) + a1) ≤ (9999 : Int32) →
        Cal G (d - 1) m_X8_go [.ref 88, .int a1] h (fun x3 h4 =>
          Cal G (d - 1) m_X8_standing [.ref 88, .int (2 : Int32)] h4 (fun x5 h6 =>
            Q x5 h6
          )
        )
      ) ∧ (¬ (((h 89 1) + a1) ≤ (9999 : Int32)) →
        (vp_in (3 : Int32) 7) ∧
        ∀ h8 : kM, h8 = kErr h 93 (3 : Int32) →
        Q (-1000000000 - (3 : Int32)) h8
      ))
    ) ∧ ((kb ((1 : Int32) ≤ a1 ∧ a1 ≤ (48 : Int32))) = 0 →
      (vp_in (1 : Int32) 7) ∧
      ∀ h10 : kM, h10 = kErr h 93 (1 : Int32) →
      Q (-1000000000 - (1 : Int32)) h10
    ))) : Cal G d m_X8_hours [.ref 88, .int a1] h Q :=
  Cal.of [.ref 88, .int a1] (by decide +kernel) (Nat.le_of_ble_eq_true rfl) rfl (sg_X8_hours_0 hd  H)

theorem iB {x : Int32} (lo hi : Nat) (hh : hi < 2 ^ 31) (h1 : nI lo ≤ x) (h2 : x ≤ nI hi) (hl : lo ≤ hi) : ∃ j, lo ≤ j ∧ j ≤ hi ∧ x = nI j := by
  rw [Int32.le_iff_toInt_le, nI_toInt (by omega)] at h1 h2
  refine ⟨x.toInt.toNat, by omega, by omega, ?_⟩
  apply Int32.toInt_inj.mp
  rw [nI_toInt (by omega)]
  omega
/-- behind some hours of the class's sea now -/
def kPsN (h h' : kM) (i : Nat) : Prop := (∀ a, a ≠ 1 → a ≠ 4 → a ≠ 14 → a ≠ 17 → h' a = h a) ∧ kVEq (kHrN (kVw h 1) i) (kVw h' 1)
theorem lp_hours (hd : 7 ≤ d) {g : Nat → Int32} {n H f w : Nat} (hS : kSRn (kVw h 1) g n H f w) {N : Nat} (hN : N ≤ 48) (hH : H ≤ 9999) (kk : ∀ h1, kPsN h h1 N → Q (kCn (kHrN (kVw h 1) N) 2 n) h1) : ∀ (m i : Nat) (h1 : kM), i + m = N → kPsN h h1 i → at_X7_hours_39 G d Q (nI N) (nI i) h1 := by
  intro m
  induction m with
  | zero =>
    intro i h1 hi q
    have hi2 : i = N := by omega
    subst hi2
    obtain ⟨g', hg'⟩ := hS.hrN i (by omega)
    refine sg_X7_hours_39 hd ⟨fun _ => sp_X2_shipsThatAre (d := d - 1) (by omega) kSea_is1 (hg'.eq q.2) ?_, fun z => absurd (nI_le (Nat.le_refl _) (by omega)) z⟩
    rw [kCn_eq q.2]
    exact kk h1 q
  | succ m ih =>
    intro i h1 hi q
    obtain ⟨g', hg'⟩ := hS.hrN i (by omega)
    refine sg_X7_hours_39 hd ⟨fun z => absurd z (ltn (nI_lt (by omega) (by omega))), fun _ => ?_⟩
    refine sp_X2_passHour (d := d - 1) (by omega) kSea_is1 (hg'.eq q.2) (fun h2 q2 => ?_)
    rw [nI_1]
    refine ih (i + 1) h2 (by omega) ⟨fun a a1 a2 a3 a4 => by rw [q2.1 a a1 a2 a3 a4, q.1 a a1 a2 a3 a4], ?_⟩
    exact (kHr_eq q.2).tr q2.2
theorem st_hours (hd : 9 ≤ d) (hR : kRel h) (a1 : Int32) : kStp G d m_X7_hours m_X8_hours [.int a1] h := by
  obtain ⟨n, H, f, w, hS, hH⟩ := hR.n
  have e13 : h 1 13 = nI H := hS.2.1.2.1
  have g1 : h 89 1 = nI H := hS.2.1.2.2
  by_cases hc : 1 ≤ a1 ∧ a1 ≤ 48
  · obtain ⟨N, hN1, hN, rfl⟩ := iB 1 48 (by decide) hc.1 hc.2 (by decide)
    by_cases hv : H + N ≤ 9999
    · have hv2 : nI H + nI N ≤ 9999 := by rw [nI_add]; exact nI_le (b := 9999) hv (by decide)
      refine cg_X7_hours (by omega) ⟨fun _ => ⟨fun _ => ?_, fun q => absurd (by rw [e13]; exact hv2) q⟩, fun q => absurd hc (kb_0.mp q)⟩
      refine lp_hours (by omega) hS hN hH (fun h1 q1 => ?_) N 0 h (by omega) ⟨fun _ _ _ _ _ => rfl, kVEq.rf⟩
      have e189 : h1 89 = h 89 := q1.1 89 (by decide) (by decide) (by decide) (by decide)
      refine cg_X8_hours hd ⟨fun _ => ⟨fun _ => ?_, fun q => absurd (by rw [e189, g1]; exact hv2) q⟩, fun q => absurd hc (kb_0.mp q)⟩
      have hS1 : kSRn (kVw h 1) (h1 89) n H f w := hS.congr2 e189
      refine sp_X8_go (d := d - 1) (by omega) (by omega) (by omega) hS1 (fun h2 q2 hS2 => sp_X8_standing (d := d - 1) (by omega) hS2 ⟨rfl, ?_⟩)
      have q3 : ∀ a, a ≠ 1 → a ≠ 4 → a ≠ 14 → a ≠ 17 → a ≠ 89 → a ≠ 95 → a ≠ 96 → h2 a = h a := fun a x1 x2 x3 x4 x5 x6 x7 => by rw [q2 a x5 x6 x7, q1.1 a x1 x2 x3 x4]
      have ev : kVEq (kHrN (kVw h 1) N) (kVw h2 1) := q1.2.tr (fun a x1 x2 => q2 (1 + a) (by omega) (by omega) (by omega))
      refine hR.sea (fun a x1 x2 x3 x4 x5 => q3 a (by omega) (by omega) (by omega) (by omega) x5 (by unfold kScr at x2; omega) (by unfold kScr at x2; omega)) ?_ ?_ ?_ ?_ ⟨n, H + N, f, w, hS2.eq ev, hv⟩
      · rw [q3 0 (by decide) (by decide) (by decide) (by decide) (by decide) (by decide) (by decide)]
      · rw [q3 76 (by decide) (by decide) (by decide) (by decide) (by decide) (by decide) (by decide)]
      · rw [q3 88 (by decide) (by decide) (by decide) (by decide) (by decide) (by decide) (by decide)]
      · rw [q3 88 (by decide) (by decide) (by decide) (by decide) (by decide) (by decide) (by decide)]
    · have hv2 : ¬ nI H + nI N ≤ 9999 := by rw [nI_add]; exact ltn (nI_lt (a := 9999) (by omega) (by omega))
      refine cg_X7_hours (by omega) ⟨fun _ => ⟨fun q => absurd (by rw [e13] at q; exact q) hv2, fun _ => ⟨kin7 (n := 3) (by decide), fun h1 e1 => ?_⟩⟩, fun q => absurd hc (kb_0.mp q)⟩
      have x1 : h1 89 1 = nI H := by rw [e1, kErr_ne (by decide)]; exact g1
      exact cg_X8_hours hd ⟨fun _ => ⟨fun q => absurd (by rw [x1] at q; exact q) hv2, fun _ => ⟨kin7 (n := 3) (by decide), kErrs hR h1 e1⟩⟩, fun q => absurd hc (kb_0.mp q)⟩
  · refine cg_X7_hours (by omega) ⟨fun q => absurd (kb_n0.mp q) hc, fun _ => ⟨kin7 (n := 1) (by decide), fun h1 e1 => ?_⟩⟩
    exact cg_X8_hours hd ⟨fun q => absurd (kb_n0.mp q) hc, fun _ => ⟨kin7 (n := 1) (by decide), kErrs hR h1 e1⟩⟩
end Hours

