/-! one ship's way ahead: home -/
section Home
variable {G : kG} {d : Nat} {Q : Int32 → kM → Prop} {h : kM}
/-- where the ship p is, i hours ahead -/
def kSh (v : kM) (p i : Nat) : Nat × Nat := kXy (kHrN v i 3 p)
theorem kSh_pl {v : kM} {g : Nat → Int32} {n H f w p i : Nat} (hS : kSRn v g n H f w) (hp : p < n) (hi : H + i ≤ 100000) : kHrN v i 3 p = kPl (kSh v p i) ∧ (kSh v p i).1 < 64 ∧ (kSh v p i).2 < 3 := by
  obtain ⟨g', hS'⟩ := hS.hrN i hi
  obtain ⟨x, x1, x2, x3, x4, x5, x6, x7, x8, x9⟩ := (hS'.2.2.2.2.2.2.2.1 p hp).xy
  unfold kSh
  rw [x5]
  exact ⟨x4, x1, x2⟩
theorem kSh_s {v : kM} {g : Nat → Int32} {n H f w p i : Nat} (hS : kSRn v g n H f w) (hp : p < n) (hi : H + i + 1 ≤ 100000) : kSai (v 1) (kPort v p) (kWn v 0 (v 0 13 + nI i)) (kWn v 1 (v 0 13 + nI i)) (kSh v p i) = kSh v p (i + 1) := by
  have l := kSh_pl hS hp (i := i) (by omega)
  have l2 := kSai_lt (la := v 1) (q := kPort v p) (e := kWn v 0 (v 0 13 + nI i)) (s := kWn v 1 (v 0 13 + nI i)) l.2.1 l.2.2
  have e := kHrN_p (v := v) (t := i) (p := p) (by rw [hS.ns]; exact hp)
  show _ = kXy (kHrN v (i + 1) 3 p)
  rw [e, kXy_pl]
  · rfl
  · exact l2.1
  · exact l2.2
theorem kPl_st {x : Nat × Nat} (h1 : x.1 < 64) (h2 : x.2 < 3) : kPl x / 64 = nI x.2 := iD64 h2 h1
theorem kPl_c {x : Nat × Nat} (h1 : x.1 < 64) (h2 : x.2 < 3) : iR (kPl x) 64 = nI x.1 := iR64 h2 h1
theorem sg_X2_placeBehindHour_0 {G : kG} {d : Nat} {Q : Int32 → kM → Prop} {b : Nat} {a1 : Int32} {a2 : Int32} {a3 : Int32} {h : kM} (hd : 6 ≤ d) (k_b : kSea b) (H :
    (((a2 / 64) = 0 →
      (vp_in (0 : Int32) 2 ∧ kSeaOk (kVw h b)) ∧
      ∀ (h3 : kM), kS1 b h h3 →
      (vp_in (1 : Int32) 2 ∧ kSeaOk (kVw h3 b)) ∧
      ∀ (h5 : kM), kS1 b h3 h5 →
      Cal G (d - 1) m_X2_sailed [.ref b, .int a1, .int a2, .int (kWn (kVw h b) (0 : Int32) a3), .int (kWn (kVw h3 b) (1 : Int32) a3)] h5 (fun x6 h7 =>
        Q x6 h7
      )
    ) ∧ (¬ ((a2 / 64) = 0) →
      Q a2 h
    ))) : Wp G d m_X2_placeBehindHour (kEo G d m_X2_placeBehindHour Q) 0 [.ref b, .int a1, .int a2, .int a3] [] h := by
  refine wp_iload_n 1 dX2_placeBehindHour_0 rfl rfl ?_
  refine wp_cN (d - 1) 1 [.int a2] [] 4 dX2_placeBehindHour_1 rfl (lk_X2_90 rfl) (by omega) rfl rfl (Nat.le_of_ble_eq_true rfl) (sp_X7_stateOf (by omega)  ?_)
  refine wp_if_eq 9 7 dX2_placeBehindHour_4 rfl rfl ⟨fun c1 => ?_, fun c1 => ?_⟩
  · replace H := H.1 c1
    refine wp_aload_n 10 dX2_placeBehindHour_9 rfl rfl ?_
    refine wp_iload_n 11 dX2_placeBehindHour_10 rfl rfl ?_
    refine wp_iload_n 12 dX2_placeBehindHour_11 rfl rfl ?_
    refine wp_aload_n 13 dX2_placeBehindHour_12 rfl rfl ?_
    refine wp_iconst (0 : Int32) 14 dX2_placeBehindHour_13 kiconst_0 rfl ?_
    refine wp_iload_n 15 dX2_placeBehindHour_14 rfl rfl ?_
    have c2 := H.1; replace H := H.2
    refine wp_cV (d - 1) 2 [.int (0 : Int32), .int a3] [.int a2, .int a1, .ref b] 18 dX2_placeBehindHour_15 rfl (lk_X2_133 rfl) (by omega) (kSea_0 k_b) rfl rfl rfl (Nat.le_of_ble_eq_true rfl) (sp_X2_windAt (by omega) k_b c2 (fun h3 eh3 => ?_))
    replace H := H h3 eh3
    refine wp_aload_n 19 dX2_placeBehindHour_18 rfl rfl ?_
    refine wp_iconst (1 : Int32) 20 dX2_placeBehindHour_19 kiconst_1 rfl ?_
    refine wp_iload_n 21 dX2_placeBehindHour_20 rfl rfl ?_
    have c4 := H.1; replace H := H.2
    refine wp_cV (d - 1) 2 [.int (1 : Int32), .int a3] [.int (kWn (kVw h b) (0 : Int32) a3), .int a2, .int a1, .ref b] 24 dX2_placeBehindHour_21 rfl (lk_X2_133 rfl) (by omega) (kSea_0 k_b) rfl rfl rfl (Nat.le_of_ble_eq_true rfl) (sp_X2_windAt (by omega) k_b c4 (fun h5 eh5 => ?_))
    replace H := H h5 eh5
    refine wp_cV (d - 1) 4 [.int a1, .int a2, .int (kWn (kVw h b) (0 : Int32) a3), .int (kWn (kVw h3 b) (1 : Int32) a3)] [] 27 dX2_placeBehindHour_24 rfl (lk_X2_136 rfl) (by omega) (kSea_0 k_b) rfl rfl rfl (Nat.le_of_ble_eq_true rfl) (H.mono (fun x6 h7 H => ?_))
    exact wp_reti dX2_placeBehindHour_27 rfl H
  · replace H := H.2 c1
    refine wp_iload_n 8 dX2_placeBehindHour_7 rfl rfl ?_
    exact wp_reti dX2_placeBehindHour_8 rfl H

theorem cg_X2_placeBehindHour {G : kG} {d : Nat} {Q : Int32 → kM → Prop} {b : Nat} {a1 : Int32} {a2 : Int32} {a3 : Int32} {h : kM} (hd : 6 ≤ d) (k_b : kSea b) (H :
    (((a2 / 64) = 0 →
      (vp_in (0 : Int32) 2 ∧ kSeaOk (kVw h b)) ∧
      ∀ (h3 : kM), kS1 b h h3 →
      (vp_in (1 : Int32) 2 ∧ kSeaOk (kVw h3 b)) ∧
      ∀ (h5 : kM), kS1 b h3 h5 →
      Cal G (d - 1) m_X2_sailed [.ref b, .int a1, .int a2, .int (kWn (kVw h b) (0 : Int32) a3), .int (kWn (kVw h3 b) (1 : Int32) a3)] h5 (fun x6 h7 =>
        Q x6 h7
      )
    ) ∧ (¬ ((a2 / 64) = 0) →
      Q a2 h
    ))) : Cal G d m_X2_placeBehindHour [.ref b, .int a1, .int a2, .int a3] h Q :=
  Cal.of [.ref b, .int a1, .int a2, .int a3] (by decide +kernel) (Nat.le_of_ble_eq_true rfl) rfl (sg_X2_placeBehindHour_0 hd k_b H)

theorem sp_X2_placeBehindHour (hd : 6 ≤ d) {b : Nat} (hb : kSea b) {p q : Nat} (hp : p < 5) (hq : q < 64) (hport : h (b + 4) p = nI q) {x : Nat × Nat} (h1 : x.1 < 64) (h2 : x.2 < 3) {t : Int32} (ho : kSeaOk (kVw h b)) (kk : ∀ h1, kS1 b h h1 → Q (kPl (kSai (h (b + 1)) q (kWn (kVw h b) 0 t) (kWn (kVw h b) 1 t) x)) h1) : Cal G d m_X2_placeBehindHour [.ref b, .int (nI p), .int (kPl x), .int t] h Q := by
  refine cg_X2_placeBehindHour hd hb ⟨fun _ => ⟨⟨by unfold vp_in; decide, ho⟩, fun h3 q3 => ⟨⟨by unfold vp_in; decide, ho.eq q3.eq⟩, fun h5 q5 => ?_⟩⟩, fun z => ?_⟩
  · have q6 := q3.tr q5
    rw [kWn_eq q3.eq]
    refine sp_X2_sailed (d := d - 1) (by omega) hb hp hq (by rw [q6 (b + 4) (by omega) (by omega)]; exact hport) h1 h2 ?_
    rw [q6 (b + 1) (by omega) (by omega)]
    exact kk h5 q6
  · have hx : ¬ x.2 = 0 := fun e => z (by rw [kPl_st h1 h2, e]; rfl)
    have := kk h (fun _ _ _ => rfl)
    rw [kSai_done hx] at this
    exact this
/-- the same, on the way of a ship of the sea now -/
theorem kBehind (hd : 6 ≤ d) {h0 : kM} {g : Nat → Int32} {n H f w p i : Nat} (hS : kSRn (kVw h0 1) g n H f w) (hp : p < n) (hi : H + i + 1 ≤ 100000) (q : kS1 1 h0 h) (kk : ∀ h1, kS1 1 h0 h1 → Q (kPl (kSh (kVw h0 1) p (i + 1))) h1) : Cal G d m_X2_placeBehindHour [.ref 1, .int (nI p), .int (kPl (kSh (kVw h0 1) p i)), .int (h 1 13 + nI i)] h Q := by
  obtain ⟨x, x1, x2, x3, x4, x5, x6, x7, x8, x9⟩ := (hS.2.2.2.2.2.2.2.1 p hp).xy
  have hn := hS.1.1
  have l := kSh_pl hS hp (i := i) (by omega)
  refine sp_X2_placeBehindHour hd kSea_is1 (q := kPort (kVw h0 1) p) (by omega) x3 (by rw [q 5 (by decide) (by decide)]; exact x8) l.2.1 l.2.2 (hS.ok.eq q.eq) (fun h1 q1 => ?_)
  rw [q.wn, q.wn, q 1 (by decide) (by decide), q 2 (by decide) (by decide)]
  have := kk h1 (q.tr q1)
  rw [← kSh_s hS hp hi] at this
  exact this
/-- what the row ahead says of a ship -/
theorem kAh.ship {v : kM} {g : Nat → Int32} {n H f w i p : Nat} {h0 h1 : kM} (a : kAh v g n H f w i h0 h1) (hp : p < n) : h1 89 (72 + 3 * p) = nI (kSh v p i).1 ∧ h1 89 (74 + 3 * p) = nI (kSh v p i).2 ∧ (kSh v p i).1 < 64 ∧ (kSh v p i).2 < 3 := by
  obtain ⟨x, x1, x2, x3, x4, x5, x6, x7, x8, x9⟩ := (a.2.2.2.2.2.2.2.2.2.1 p hp).xy
  unfold kSh
  rw [x5]
  exact ⟨x6, x7, x1, x2⟩
def at_X7_home_37 (G : kG) (d : Nat) (Q : Int32 → kM → Prop)  (v1 : Int32) (v2 : Int32) (v3 : Int32) (v4 : Int32) (h : kM) : Prop := Wp G d m_X7_home (kEo G d m_X7_home Q) 37 [.ref 0, .int v1, .int v2, .int v3, .int v4] [] h
theorem sg_X7_home_0 {G : kG} {d : Nat} {Q : Int32 → kM → Prop}  {a1 : Int32} {a2 : Int32} {h : kM} (hd : 7 ≤ d)  (H :
    (((kb (0 ≤ a1 ∧ a1 < h 1 12)) = 0 →
      (vp_in (1 : Int32) 7) ∧
      ∀ h3 : kM, h3 = kErr h 87 (1 : Int32) →
      Q (-1000000000 - (1 : Int32)) h3
    ) ∧ (¬ ((kb (0 ≤ a1 ∧ a1 < h 1 12)) = 0) →
      ((¬ (kb ((0 : Int32) ≤ a2 ∧ a2 ≤ (48 : Int32))) = 0 →
        (vp_in a1 5) ∧
        at_X7_home_37 G d Q a1 a2 (h 4 (a1).toNatClampNeg) (0 : Int32) h
      ) ∧ ((kb ((0 : Int32) ≤ a2 ∧ a2 ≤ (48 : Int32))) = 0 →
        (vp_in (1 : Int32) 7) ∧
        ∀ h7 : kM, h7 = kErr h 87 (1 : Int32) →
        Q (-1000000000 - (1 : Int32)) h7
      ))
    ))) : Wp G d m_X7_home (kEo G d m_X7_home Q) 0 [.ref 0, .int a1, .int a2, .null, .null] [] h := by
  refine wp_aload_n 1 dX7_home_0 rfl rfl ?_
  refine wp_iload_n 2 dX7_home_1 rfl rfl ?_
  refine wp_cV (d - 1) 1 [.int a1] [] 5 dX7_home_2 rfl (lk_X7_84 rfl) (by omega) kd_0 rfl rfl rfl (Nat.le_of_ble_eq_true rfl) (sp_X7_isShip (by omega)  ?_)
  refine wp_if_eq 18 8 dX7_home_5 rfl rfl ⟨fun c1 => ?_, fun c1 => ?_⟩
  · replace H := H.1 c1
    refine wp_aload_n 19 dX7_home_18 rfl rfl ?_
    refine wp_iconst (1 : Int32) 20 dX7_home_19 kiconst_1 rfl ?_
    have c2 := H.1; replace H := H.2
    refine wp_cV (d - 1) 1 [.int (1 : Int32)] [] 23 dX7_home_20 rfl (lk_X7_62 rfl) (by omega) kd_0 rfl rfl rfl (Nat.le_of_ble_eq_true rfl) (sp_X7_error (by omega) c2 (fun h3 eh3 => ?_))
    replace H := H h3 eh3
    exact wp_reti dX7_home_23 rfl H
  · replace H := H.2 c1
    refine wp_iload_n 9 dX7_home_8 rfl rfl ?_
    refine wp_iconst (0 : Int32) 10 dX7_home_9 kiconst_0 rfl ?_
    refine wp_bipush (48 : Int32) 12 dX7_home_10 kbipush_48 rfl ?_
    refine wp_cS (d - 1) 3 [.int a2, .int (0 : Int32), .int (48 : Int32)] [] 15 dX7_home_12 rfl (lk_X7_69 rfl) (by omega) rfl rfl (Nat.le_of_ble_eq_true rfl) (sp_X7_between (by omega)  ?_)
    refine wp_if_ne 24 18 dX7_home_15 rfl rfl ⟨fun c4 => ?_, fun c4 => ?_⟩
    · replace H := H.1 c4
      refine wp_aload_n 25 dX7_home_24 rfl rfl ?_
      refine wp_getR 1 1 28 dX7_home_25 rfl fl_X7_12 kd_0 rfl rfl rfl rfl ?_
      refine wp_getR 3 4 31 dX7_home_28 rfl fl_X7_88 kd_1 rfl rfl rfl rfl ?_
      refine wp_iload_n 32 dX7_home_31 rfl rfl ?_
      have c5 := H.1; replace H := H.2
      refine wp_iald 33 dX7_home_32 rfl kd_4 c5 ?_
      refine wp_istore_n 34 dX7_home_33 rfl (Nat.le_of_ble_eq_true rfl) rfl ?_
      refine wp_iconst (0 : Int32) 35 dX7_home_34 kiconst_0 rfl ?_
      refine wp_istore 37 dX7_home_35 rfl (Nat.le_of_ble_eq_true rfl) rfl ?_
      exact H
    · replace H := H.2 c4
      refine wp_aload_n 19 dX7_home_18 rfl rfl ?_
      refine wp_iconst (1 : Int32) 20 dX7_home_19 kiconst_1 rfl ?_
      have c6 := H.1; replace H := H.2
      refine wp_cV (d - 1) 1 [.int (1 : Int32)] [] 23 dX7_home_20 rfl (lk_X7_62 rfl) (by omega) kd_0 rfl rfl rfl (Nat.le_of_ble_eq_true rfl) (sp_X7_error (by omega) c6 (fun h7 eh7 => ?_))
      replace H := H h7 eh7
      exact wp_reti dX7_home_23 rfl H

theorem cg_X7_home {G : kG} {d : Nat} {Q : Int32 → kM → Prop}  {a1 : Int32} {a2 : Int32} {h : kM} (hd : 7 ≤ d)  (H :
    (((kb (0 ≤ a1 ∧ a1 < h 1 12)) = 0 →
      (vp_in (1 : Int32) 7) ∧
      ∀ h3 : kM, h3 = kErr h 87 (1 : Int32) →
      Q (-1000000000 - (1 : Int32)) h3
    ) ∧ (¬ ((kb (0 ≤ a1 ∧ a1 < h 1 12)) = 0) →
      ((¬ (kb ((0 : Int32) ≤ a2 ∧ a2 ≤ (48 : Int32))) = 0 →
        (vp_in a1 5) ∧
        at_X7_home_37 G d Q a1 a2 (h 4 (a1).toNatClampNeg) (0 : Int32) h
      ) ∧ ((kb ((0 : Int32) ≤ a2 ∧ a2 ≤ (48 : Int32))) = 0 →
        (vp_in (1 : Int32) 7) ∧
        ∀ h7 : kM, h7 = kErr h 87 (1 : Int32) →
        Q (-1000000000 - (1 : Int32)) h7
      ))
    ))) : Cal G d m_X7_home [.ref 0, .int a1, .int a2] h Q :=
  Cal.of [.ref 0, .int a1, .int a2, .null, .null] (by decide +kernel) (Nat.le_of_ble_eq_true rfl) rfl (sg_X7_home_0 hd  H)

theorem sg_X7_home_37 {G : kG} {d : Nat} {Q : Int32 → kM → Prop}  {v1 : Int32} {v2 : Int32} {v3 : Int32} {v4 : Int32} {h : kM} (hd : 7 ≤ d)  (H :
    ((v2 ≤ v4 →
      ((¬ (v3 / 64) = (2 : Int32) →
        (vp_in (2 : Int32) 7) ∧
        ∀ h4 : kM, h4 = kErr h 87 (2 : Int32) →
        Q (-1000000000 - (2 : Int32)) h4
      ) ∧ ((v3 / 64) = (2 : Int32) →
        Q (0 : Int32) h
      ))
    ) ∧ (¬ (v2 ≤ v4) →
      (((v3 / 64) = (2 : Int32) →
        Q (0 : Int32) h
      ) ∧ (¬ ((v3 / 64) = (2 : Int32)) →
        Cal G (d - 1) m_X2_placeBehindHour [.ref 1, .int v1, .int v3, .int ((h 1 13) + v4)] h (fun x7 h8 =>
          ((¬ (x7 / 64) = (2 : Int32) →
            at_X7_home_37 G d Q v1 v2 x7 (v4 + (1 : Int32)) h8
          ) ∧ ((x7 / 64) = (2 : Int32) →
            Q (v4 + (1 : Int32)) h8
          ))
        )
      ))
    ))) : at_X7_home_37 G d Q v1 v2 v3 v4 h := by
  show Wp G d m_X7_home (kEo G d m_X7_home Q) 37 [.ref 0, .int v1, .int v2, .int v3, .int v4] [] h
  refine wp_iload 39 dX7_home_37 rfl rfl ?_
  refine wp_iload_n 40 dX7_home_39 rfl rfl ?_
  refine wp_icmp_ge 90 43 dX7_home_40 rfl rfl ⟨fun c1 => ?_, fun c1 => ?_⟩
  · replace H := H.1 c1
    refine wp_iload_n 91 dX7_home_90 rfl rfl ?_
    refine wp_cS (d - 1) 1 [.int v3] [] 94 dX7_home_91 rfl (lk_X7_189 rfl) (by omega) rfl rfl (Nat.le_of_ble_eq_true rfl) (sp_X7_stateOf (by omega)  ?_)
    refine wp_iconst (2 : Int32) 95 dX7_home_94 kiconst_2 rfl ?_
    refine wp_icmp_ne 102 98 dX7_home_95 rfl rfl ⟨fun c2 => ?_, fun c2 => ?_⟩
    · replace H := H.1 c2
      refine wp_aload_n 103 dX7_home_102 rfl rfl ?_
      refine wp_iconst (2 : Int32) 104 dX7_home_103 kiconst_2 rfl ?_
      have c3 := H.1; replace H := H.2
      refine wp_cV (d - 1) 1 [.int (2 : Int32)] [] 107 dX7_home_104 rfl (lk_X7_62 rfl) (by omega) kd_0 rfl rfl rfl (Nat.le_of_ble_eq_true rfl) (sp_X7_error (by omega) c3 (fun h4 eh4 => ?_))
      replace H := H h4 eh4
      exact wp_reti dX7_home_107 rfl H
    · replace H := H.2 c2
      refine wp_iconst (0 : Int32) 99 dX7_home_98 kiconst_0 rfl ?_
      refine wp_goto 107 dX7_home_99 rfl ?_
      exact wp_reti dX7_home_107 rfl H
  · replace H := H.2 c1
    refine wp_iload_n 44 dX7_home_43 rfl rfl ?_
    refine wp_cS (d - 1) 1 [.int v3] [] 47 dX7_home_44 rfl (lk_X7_189 rfl) (by omega) rfl rfl (Nat.le_of_ble_eq_true rfl) (sp_X7_stateOf (by omega)  ?_)
    refine wp_iconst (2 : Int32) 48 dX7_home_47 kiconst_2 rfl ?_
    refine wp_icmp_eq 90 51 dX7_home_48 rfl rfl ⟨fun c5 => ?_, fun c5 => ?_⟩
    · replace H := H.1 c5
      refine wp_iload_n 91 dX7_home_90 rfl rfl ?_
      refine wp_cS (d - 1) 1 [.int v3] [] 94 dX7_home_91 rfl (lk_X7_189 rfl) (by omega) rfl rfl (Nat.le_of_ble_eq_true rfl) (sp_X7_stateOf (by omega)  ?_)
      refine wp_iconst (2 : Int32) 95 dX7_home_94 kiconst_2 rfl ?_
      refine wp_icmp_ne 102 98 dX7_home_95 rfl rfl ⟨fun c6 => absurd c5 c6, fun c6 => ?_⟩
      refine wp_iconst (0 : Int32) 99 dX7_home_98 kiconst_0 rfl ?_
      refine wp_goto 107 dX7_home_99 rfl ?_
      exact wp_reti dX7_home_107 rfl H
    · replace H := H.2 c5
      refine wp_aload_n 52 dX7_home_51 rfl rfl ?_
      refine wp_getR 1 1 55 dX7_home_52 rfl fl_X7_12 kd_0 rfl rfl rfl rfl ?_
      refine wp_iload_n 56 dX7_home_55 rfl rfl ?_
      refine wp_iload_n 57 dX7_home_56 rfl rfl ?_
      refine wp_aload_n 58 dX7_home_57 rfl rfl ?_
      refine wp_getR 1 1 61 dX7_home_58 rfl fl_X7_12 kd_0 rfl rfl rfl rfl ?_
      refine wp_getI 64 dX7_home_61 rfl fl_X7_126 kd_1 rfl ?_
      refine wp_iload 66 dX7_home_64 rfl rfl ?_
      refine wp_iadd 67 dX7_home_66 rfl ?_
      refine wp_cV (d - 1) 3 [.int v1, .int v3, .int ((h 1 13) + v4)] [] 70 dX7_home_67 rfl (lk_X7_186 rfl) (by omega) kd_1 rfl rfl rfl (Nat.le_of_ble_eq_true rfl) (H.mono (fun x7 h8 H => ?_))
      refine wp_istore_n 71 dX7_home_70 rfl (Nat.le_of_ble_eq_true rfl) rfl ?_
      refine wp_iload_n 72 dX7_home_71 rfl rfl ?_
      refine wp_cS (d - 1) 1 [.int x7] [] 75 dX7_home_72 rfl (lk_X7_189 rfl) (by omega) rfl rfl (Nat.le_of_ble_eq_true rfl) (sp_X7_stateOf (by omega)  ?_)
      refine wp_iconst (2 : Int32) 76 dX7_home_75 kiconst_2 rfl ?_
      refine wp_icmp_ne 84 79 dX7_home_76 rfl rfl ⟨fun c9 => ?_, fun c9 => ?_⟩
      · replace H := H.1 c9
        refine wp_iinc (1 : Int32) 87 dX7_home_84 rfl rfl kiconst_1 (Nat.le_of_ble_eq_true rfl) rfl ?_
        refine wp_goto 37 dX7_home_87 rfl ?_
        exact H
      · replace H := H.2 c9
        refine wp_iload 81 dX7_home_79 rfl rfl ?_
        refine wp_iconst (1 : Int32) 82 dX7_home_81 kiconst_1 rfl ?_
        refine wp_iadd 83 dX7_home_82 rfl ?_
        exact wp_reti dX7_home_83 rfl H

def at_X8_home_31 (G : kG) (d : Nat) (Q : Int32 → kM → Prop)  (v1 : Int32) (v2 : Int32) (v3 : Int32) (h : kM) : Prop := Wp G d m_X8_home (kEo G d m_X8_home Q) 31 [.ref 88, .int v1, .int v2, .int v3, .null] [] h
theorem sg_X8_home_0 {G : kG} {d : Nat} {Q : Int32 → kM → Prop}  {a1 : Int32} {a2 : Int32} {h : kM} (hd : 8 ≤ d)  (H :
    (((kb (0 ≤ a1 ∧ a1 ≤ h 89 0 - 1)) = 0 →
      (vp_in (1 : Int32) 7) ∧
      ∀ h3 : kM, h3 = kErr h 93 (1 : Int32) →
      Q (-1000000000 - (1 : Int32)) h3
    ) ∧ (¬ ((kb (0 ≤ a1 ∧ a1 ≤ h 89 0 - 1)) = 0) →
      ((¬ (kb ((0 : Int32) ≤ a2 ∧ a2 ≤ (48 : Int32))) = 0 →
        ∀ h5 : kM, h5 = kCp h 89 92 0 0 147 →
        at_X8_home_31 G d Q a1 a2 (0 : Int32) h5
      ) ∧ ((kb ((0 : Int32) ≤ a2 ∧ a2 ≤ (48 : Int32))) = 0 →
        (vp_in (1 : Int32) 7) ∧
        ∀ h7 : kM, h7 = kErr h 93 (1 : Int32) →
        Q (-1000000000 - (1 : Int32)) h7
      ))
    ))) : Wp G d m_X8_home (kEo G d m_X8_home Q) 0 [.ref 88, .int a1, .int a2, .null, .null] [] h := by
  refine wp_aload_n 1 dX8_home_0 rfl rfl ?_
  refine wp_iload_n 2 dX8_home_1 rfl rfl ?_
  refine wp_cV (d - 1) 1 [.int a1] [] 5 dX8_home_2 rfl (lk_X8_54 rfl) (by omega) kd_88 rfl rfl rfl (Nat.le_of_ble_eq_true rfl) (sp_X8_isShip (by omega)  ?_)
  refine wp_if_eq 18 8 dX8_home_5 rfl rfl ⟨fun c1 => ?_, fun c1 => ?_⟩
  · replace H := H.1 c1
    refine wp_aload_n 19 dX8_home_18 rfl rfl ?_
    refine wp_iconst (1 : Int32) 20 dX8_home_19 kiconst_1 rfl ?_
    have c2 := H.1; replace H := H.2
    refine wp_cV (d - 1) 1 [.int (1 : Int32)] [] 23 dX8_home_20 rfl (lk_X8_62 rfl) (by omega) kd_88 rfl rfl rfl (Nat.le_of_ble_eq_true rfl) (sp_X8_error (by omega) c2 (fun h3 eh3 => ?_))
    replace H := H h3 eh3
    exact wp_reti dX8_home_23 rfl H
  · replace H := H.2 c1
    refine wp_iload_n 9 dX8_home_8 rfl rfl ?_
    refine wp_iconst (0 : Int32) 10 dX8_home_9 kiconst_0 rfl ?_
    refine wp_bipush (48 : Int32) 12 dX8_home_10 kbipush_48 rfl ?_
    refine wp_cS (d - 1) 3 [.int a2, .int (0 : Int32), .int (48 : Int32)] [] 15 dX8_home_12 rfl (lk_X8_50 rfl) (by omega) rfl rfl (Nat.le_of_ble_eq_true rfl) (sp_X8_in (by omega)  ?_)
    refine wp_if_ne 24 18 dX8_home_15 rfl rfl ⟨fun c4 => ?_, fun c4 => ?_⟩
    · replace H := H.1 c4
      refine wp_aload_n 25 dX8_home_24 rfl rfl ?_
      refine wp_iconst (0 : Int32) 26 dX8_home_25 kiconst_0 rfl ?_
      refine wp_cV (d - 1) 1 [.int (0 : Int32)] [] 29 dX8_home_26 rfl (lk_X8_200 rfl) (by omega) kd_88 rfl rfl rfl (Nat.le_of_ble_eq_true rfl) (sp_X8_layDown (by omega)  (fun h5 eh5 => ?_))
      replace H := H h5 eh5
      refine wp_iconst (0 : Int32) 30 dX8_home_29 kiconst_0 rfl ?_
      refine wp_istore_n 31 dX8_home_30 rfl (Nat.le_of_ble_eq_true rfl) rfl ?_
      exact H
    · replace H := H.2 c4
      refine wp_aload_n 19 dX8_home_18 rfl rfl ?_
      refine wp_iconst (1 : Int32) 20 dX8_home_19 kiconst_1 rfl ?_
      have c6 := H.1; replace H := H.2
      refine wp_cV (d - 1) 1 [.int (1 : Int32)] [] 23 dX8_home_20 rfl (lk_X8_62 rfl) (by omega) kd_88 rfl rfl rfl (Nat.le_of_ble_eq_true rfl) (sp_X8_error (by omega) c6 (fun h7 eh7 => ?_))
      replace H := H h7 eh7
      exact wp_reti dX8_home_23 rfl H

theorem cg_X8_home {G : kG} {d : Nat} {Q : Int32 → kM → Prop}  {a1 : Int32} {a2 : Int32} {h : kM} (hd : 8 ≤ d)  (H :
    (((kb (0 ≤ a1 ∧ a1 ≤ h 89 0 - 1)) = 0 →
      (vp_in (1 : Int32) 7) ∧
      ∀ h3 : kM, h3 = kErr h 93 (1 : Int32) →
      Q (-1000000000 - (1 : Int32)) h3
    ) ∧ (¬ ((kb (0 ≤ a1 ∧ a1 ≤ h 89 0 - 1)) = 0) →
      ((¬ (kb ((0 : Int32) ≤ a2 ∧ a2 ≤ (48 : Int32))) = 0 →
        ∀ h5 : kM, h5 = kCp h 89 92 0 0 147 →
        at_X8_home_31 G d Q a1 a2 (0 : Int32) h5
      ) ∧ ((kb ((0 : Int32) ≤ a2 ∧ a2 ≤ (48 : Int32))) = 0 →
        (vp_in (1 : Int32) 7) ∧
        ∀ h7 : kM, h7 = kErr h 93 (1 : Int32) →
        Q (-1000000000 - (1 : Int32)) h7
      ))
    ))) : Cal G d m_X8_home [.ref 88, .int a1, .int a2] h Q :=
  Cal.of [.ref 88, .int a1, .int a2, .null, .null] (by decide +kernel) (Nat.le_of_ble_eq_true rfl) rfl (sg_X8_home_0 hd  H)

theorem sg_X8_home_31 {G : kG} {d : Nat} {Q : Int32 → kM → Prop}  {v1 : Int32} {v2 : Int32} {v3 : Int32} {h : kM} (hd : 8 ≤ d)  (H :
    ((v2 ≤ v3 →
      (okO v1 (2 : Int32)) ∧
      ((¬ (mOf (h 89) v1 (2 : Int32)) = (2 : Int32) →
        ∀ h4 : kM, h4 = kCp h 92 89 0 0 147 →
        (vp_in (2 : Int32) 7) ∧
        ∀ h6 : kM, h6 = kErr h4 93 (2 : Int32) →
        Q (-1000000000 - (2 : Int32)) h6
      ) ∧ ((mOf (h 89) v1 (2 : Int32)) = (2 : Int32) →
        ∀ h7 : kM, h7 = kCp h 92 89 0 0 147 →
        Q v3 h7
      ))
    ) ∧ (¬ (v2 ≤ v3) →
      (okO v1 (2 : Int32)) ∧
      (((mOf (h 89) v1 (2 : Int32)) = (2 : Int32) →
        (okO v1 (2 : Int32)) ∧
        ∀ h12 : kM, h12 = kCp h 92 89 0 0 147 →
        Q v3 h12
      ) ∧ (¬ ((mOf (h 89) v1 (2 : Int32)) = (2 : Int32)) →
        Cal G (d - 1) m_X8_hour [.ref 88] h (fun x13 h14 =>
          at_X8_home_31 G d Q v1 v2 (v3 + (1 : Int32)) h14
        )
      ))
    ))) : at_X8_home_31 G d Q v1 v2 v3 h := by
  show Wp G d m_X8_home (kEo G d m_X8_home Q) 31 [.ref 88, .int v1, .int v2, .int v3, .null] [] h
  refine wp_iload_n 32 dX8_home_31 rfl rfl ?_
  refine wp_iload_n 33 dX8_home_32 rfl rfl ?_
  refine wp_icmp_ge 56 36 dX8_home_33 rfl rfl ⟨fun c1 => ?_, fun c1 => ?_⟩
  · replace H := H.1 c1
    refine wp_aload_n 57 dX8_home_56 rfl rfl ?_
    refine wp_iload_n 58 dX8_home_57 rfl rfl ?_
    refine wp_iconst (2 : Int32) 59 dX8_home_58 kiconst_2 rfl ?_
    have c2 := H.1; replace H := H.2
    refine wp_cV (d - 1) 2 [.int v1, .int (2 : Int32)] [] 62 dX8_home_59 rfl (lk_X8_146 rfl) (by omega) kd_88 rfl rfl rfl (Nat.le_of_ble_eq_true rfl) (sp_X8_of (by omega) c2 ?_)
    refine wp_iconst (2 : Int32) 63 dX8_home_62 kiconst_2 rfl ?_
    refine wp_icmp_ne 70 66 dX8_home_63 rfl rfl ⟨fun c3 => ?_, fun c3 => ?_⟩
    · replace H := H.1 c3
      refine wp_iconst (0 : Int32) 71 dX8_home_70 kiconst_0 rfl ?_
      refine wp_istore 73 dX8_home_71 rfl (Nat.le_of_ble_eq_true rfl) rfl ?_
      refine wp_aload_n 74 dX8_home_73 rfl rfl ?_
      refine wp_iconst (0 : Int32) 75 dX8_home_74 kiconst_0 rfl ?_
      refine wp_cV (d - 1) 1 [.int (0 : Int32)] [] 78 dX8_home_75 rfl (lk_X8_203 rfl) (by omega) kd_88 rfl rfl rfl (Nat.le_of_ble_eq_true rfl) (sp_X8_layBack (by omega)  (fun h4 eh4 => ?_))
      replace H := H h4 eh4
      refine wp_iload 80 dX8_home_78 rfl rfl ?_
      refine wp_if_eq 87 83 dX8_home_80 rfl rfl ⟨fun c => ?_, fun c => absurd (by decide) c⟩
      refine wp_aload_n 88 dX8_home_87 rfl rfl ?_
      refine wp_iconst (2 : Int32) 89 dX8_home_88 kiconst_2 rfl ?_
      have c5 := H.1; replace H := H.2
      refine wp_cV (d - 1) 1 [.int (2 : Int32)] [] 92 dX8_home_89 rfl (lk_X8_62 rfl) (by omega) kd_88 rfl rfl rfl (Nat.le_of_ble_eq_true rfl) (sp_X8_error (by omega) c5 (fun h6 eh6 => ?_))
      replace H := H h6 eh6
      exact wp_reti dX8_home_92 rfl H
    · replace H := H.2 c3
      refine wp_iconst (1 : Int32) 67 dX8_home_66 kiconst_1 rfl ?_
      refine wp_goto 71 dX8_home_67 rfl ?_
      refine wp_istore 73 dX8_home_71 rfl (Nat.le_of_ble_eq_true rfl) rfl ?_
      refine wp_aload_n 74 dX8_home_73 rfl rfl ?_
      refine wp_iconst (0 : Int32) 75 dX8_home_74 kiconst_0 rfl ?_
      refine wp_cV (d - 1) 1 [.int (0 : Int32)] [] 78 dX8_home_75 rfl (lk_X8_203 rfl) (by omega) kd_88 rfl rfl rfl (Nat.le_of_ble_eq_true rfl) (sp_X8_layBack (by omega)  (fun h7 eh7 => ?_))
      replace H := H h7 eh7
      refine wp_iload 80 dX8_home_78 rfl rfl ?_
      refine wp_if_eq 87 83 dX8_home_80 rfl rfl ⟨fun c => absurd c (by decide), fun c => ?_⟩
      refine wp_iload_n 84 dX8_home_83 rfl rfl ?_
      refine wp_goto 92 dX8_home_84 rfl ?_
      exact wp_reti dX8_home_92 rfl H
  · replace H := H.2 c1
    refine wp_aload_n 37 dX8_home_36 rfl rfl ?_
    refine wp_iload_n 38 dX8_home_37 rfl rfl ?_
    refine wp_iconst (2 : Int32) 39 dX8_home_38 kiconst_2 rfl ?_
    have c8 := H.1; replace H := H.2
    refine wp_cV (d - 1) 2 [.int v1, .int (2 : Int32)] [] 42 dX8_home_39 rfl (lk_X8_146 rfl) (by omega) kd_88 rfl rfl rfl (Nat.le_of_ble_eq_true rfl) (sp_X8_of (by omega) c8 ?_)
    refine wp_iconst (2 : Int32) 43 dX8_home_42 kiconst_2 rfl ?_
    refine wp_icmp_eq 56 46 dX8_home_43 rfl rfl ⟨fun c9 => ?_, fun c9 => ?_⟩
    · replace H := H.1 c9
      refine wp_aload_n 57 dX8_home_56 rfl rfl ?_
      refine wp_iload_n 58 dX8_home_57 rfl rfl ?_
      refine wp_iconst (2 : Int32) 59 dX8_home_58 kiconst_2 rfl ?_
      have c10 := H.1; replace H := H.2
      refine wp_cV (d - 1) 2 [.int v1, .int (2 : Int32)] [] 62 dX8_home_59 rfl (lk_X8_146 rfl) (by omega) kd_88 rfl rfl rfl (Nat.le_of_ble_eq_true rfl) (sp_X8_of (by omega) c10 ?_)
      refine wp_iconst (2 : Int32) 63 dX8_home_62 kiconst_2 rfl ?_
      refine wp_icmp_ne 70 66 dX8_home_63 rfl rfl ⟨fun c11 => absurd c9 c11, fun c11 => ?_⟩
      refine wp_iconst (1 : Int32) 67 dX8_home_66 kiconst_1 rfl ?_
      refine wp_goto 71 dX8_home_67 rfl ?_
      refine wp_istore 73 dX8_home_71 rfl (Nat.le_of_ble_eq_true rfl) rfl ?_
      refine wp_aload_n 74 dX8_home_73 rfl rfl ?_
      refine wp_iconst (0 : Int32) 75 dX8_home_74 kiconst_0 rfl ?_
      refine wp_cV (d - 1) 1 [.int (0 : Int32)] [] 78 dX8_home_75 rfl (lk_X8_203 rfl) (by omega) kd_88 rfl rfl rfl (Nat.le_of_ble_eq_true rfl) (sp_X8_layBack (by omega)  (fun h12 eh12 => ?_))
      replace H := H h12 eh12
      refine wp_iload 80 dX8_home_78 rfl rfl ?_
      refine wp_if_eq 87 83 dX8_home_80 rfl rfl ⟨fun c => absurd c (by decide), fun c => ?_⟩
      refine wp_iload_n 84 dX8_home_83 rfl rfl ?_
      refine wp_goto 92 dX8_home_84 rfl ?_
      exact wp_reti dX8_home_92 rfl H
    · replace H := H.2 c9
      refine wp_aload_n 47 dX8_home_46 rfl rfl ?_
      refine wp_cV (d - 1) 0 [] [] 50 dX8_home_47 rfl (lk_X8_187 rfl) (by omega) kd_88 rfl rfl rfl (Nat.le_of_ble_eq_true rfl) (H.mono (fun x13 h14 H => ?_))
      refine wp_iinc (1 : Int32) 53 dX8_home_50 rfl rfl kiconst_1 (Nat.le_of_ble_eq_true rfl) rfl ?_
      refine wp_goto 31 dX8_home_53 rfl ?_
      exact H

theorem lp_home (hd : 7 ≤ d) {N p : Nat} {g : Nat → Int32} {n H f w : Nat} (hS : kSRn (kVw h 1) g n H f w) (hp : p < n) (hN : N ≤ 48) (hH : H ≤ 9999) (k1 : ∀ h1 m, kS1 1 h h1 → m ≤ N → (∀ j, j < m → ¬ (kSh (kVw h 1) p j).2 = 2) → (kSh (kVw h 1) p m).2 = 2 → Q (nI m) h1) (k2 : ∀ h1, kS1 1 h h1 → (∀ j, j ≤ N → ¬ (kSh (kVw h 1) p j).2 = 2) → ∀ h2, h2 = kErr h1 87 2 → Q (-1000000000 - 2) h2) : ∀ (m i : Nat) (h1 : kM), i + m = N → kS1 1 h h1 → (∀ j, j < i → ¬ (kSh (kVw h 1) p j).2 = 2) → (i = 0 ∨ ¬ (kSh (kVw h 1) p i).2 = 2) → at_X7_home_37 G d Q (nI p) (nI N) (kPl (kSh (kVw h 1) p i)) (nI i) h1 := by
  have st2 : ∀ {i : Nat}, H + i ≤ 100000 → (kPl (kSh (kVw h 1) p i) / 64 = 2 ↔ (kSh (kVw h 1) p i).2 = 2) := fun {i} hi => by
    have l := kSh_pl hS hp (i := i) hi
    rw [kPl_st l.2.1 l.2.2]
    exact nI_eq (b := 2) (by omega) (by decide)
  intro m
  induction m with
  | zero =>
    intro i h1 hi q al hz
    have hi2 : i = N := by omega
    subst hi2
    refine sg_X7_home_37 hd ⟨fun _ => ⟨fun z => ⟨kin7 (n := 2) (by decide), fun h2 e2 => k2 h1 q (fun j hj => ?_) h2 e2⟩, fun z => ?_⟩, fun z => absurd (nI_le (Nat.le_refl _) (by omega)) z⟩
    · by_cases e : j = i
      · subst e
        exact fun y => z ((st2 (by omega)).mpr y)
      · exact al j (by omega)
    · have z2 := (st2 (by omega)).mp z
      rcases hz with e | e
      · subst e
        exact k1 h1 0 q (Nat.le_refl _) al z2
      · exact absurd z2 e
  | succ m ih =>
    intro i h1 hi q al hz
    refine sg_X7_home_37 hd ⟨fun z => absurd z (ltn (nI_lt (by omega) (by omega))), fun _ => ⟨fun z => ?_, fun z => ?_⟩⟩
    · have z2 := (st2 (by omega)).mp z
      rcases hz with e | e
      · subst e
        exact k1 h1 0 q (Nat.zero_le _) al z2
      · exact absurd z2 e
    · have z2 : ¬ (kSh (kVw h 1) p i).2 = 2 := fun y => z ((st2 (by omega)).mpr y)
      have al2 : ∀ j, j < i + 1 → ¬ (kSh (kVw h 1) p j).2 = 2 := fun j hj => by
        by_cases e : j = i
        · subst e
          exact z2
        · exact al j (by omega)
      refine kBehind (d := d - 1) (by omega) hS hp (by omega) q (fun h2 q2 => ?_)
      rw [nI_1]
      refine ⟨fun y => ih (i + 1) h2 (by omega) q2 al2 (Or.inr fun y2 => y ((st2 (by omega)).mpr y2)), fun y => k1 h2 (i + 1) q2 (by omega) al2 ((st2 (by omega)).mp y)⟩
theorem lp_mhome (hd : 8 ≤ d) {v : kM} {g : Nat → Int32} {n H f w N m p : Nat} (hp : p < n) (hn : n ≤ 5) (hN : N ≤ 48) (hH : H ≤ 9999) (hm : m ≤ N) (al : ∀ j, j < m → ¬ (kSh v p j).2 = 2) (en : (kSh v p m).2 = 2 ∨ m = N) (k1 : (kSh v p m).2 = 2 → ∀ h1, kAh v g n H f w m h h1 → ∀ h2, h2 = kCp h1 92 89 0 0 147 → Q (nI m) h2) (k2 : ¬ (kSh v p m).2 = 2 → ∀ h1, kAh v g n H f w m h h1 → ∀ h2, h2 = kCp h1 92 89 0 0 147 → ∀ h3, h3 = kErr h2 93 2 → Q (-1000000000 - 2) h3) : ∀ (k i : Nat) (h1 : kM), i + k = m → kAh v g n H f w i h h1 → at_X8_home_31 G d Q (nI p) (nI N) (nI i) h1 := by
  have oO : ∀ w, w < 3 → okO (nI p) (nI w) := fun w hw => okO_n (by omega) hw
  have mo2 : ∀ g, mOf g (nI p) 2 = g (74 + 3 * p) := fun g => by
    have := mOf_n (g := g) (p := p) (w := 2) (by omega) (by decide)
    rw [show 72 + 3 * p + 2 = 74 + 3 * p by omega] at this
    exact this
  intro k
  induction k with
  | zero =>
    intro i h1 hi a
    have hi2 : i = m := by omega
    subst hi2
    have sh := a.ship hp
    have s2 : (mOf (h1 89) (nI p) 2 = 2) ↔ (kSh v p i).2 = 2 := by
      rw [mo2, sh.2.1]
      exact nI_eq (b := 2) (by omega) (by decide)
    refine sg_X8_home_31 hd ⟨fun _ => ⟨oO 2 (by decide), fun z h2 e2 => ⟨kin7 (n := 2) (by decide), fun h3 e3 => k2 (fun y => z (s2.mpr y)) h1 a h2 e2 h3 e3⟩, fun z h2 e2 => k1 (s2.mp z) h1 a h2 e2⟩, fun z => ⟨oO 2 (by decide), fun y => ⟨oO 2 (by decide), fun h2 e2 => k1 (s2.mp y) h1 a h2 e2⟩, fun y => ?_⟩⟩
    rcases en with e | e
    · exact absurd (s2.mpr e) y
    · exact absurd (by rw [e]; exact nI_le (Nat.le_refl _) (by omega)) z
  | succ k ih =>
    intro i h1 hi a
    have sh := a.ship hp
    have s2 : (mOf (h1 89) (nI p) 2 = 2) ↔ (kSh v p i).2 = 2 := by
      rw [mo2, sh.2.1]
      exact nI_eq (b := 2) (by omega) (by decide)
    refine sg_X8_home_31 hd ⟨fun z => absurd z (ltn (nI_lt (by omega) (by omega))), fun _ => ⟨oO 2 (by decide), fun y => absurd (s2.mp y) (al i (by omega)), fun _ => ?_⟩⟩
    rw [nI_1]
    exact a.step (by omega) (by omega) (fun h2 a2 => ih (i + 1) h2 (by omega) a2)
/-- behind what looked ahead -/
theorem kRel.ahead {h1 h2 h3 h4 : kM} (hR : kRel h) (q : kS1 1 h h1) (e2 : h2 = kCp h1 89 92 0 0 147) {v : kM} {n H f w i : Nat} (a : kAh v (h 89) n H f w i h2 h3) (e4 : h4 = kCp h3 92 89 0 0 147) : kRel h4 := by
  have g1 : h1 89 = h 89 := q 89 (by decide) (by decide)
  obtain ⟨b1, b2⟩ := a.back (fun j hj => by rw [e2, kCp_eq, cpy0, if_pos hj, g1]) e4
  refine hR.scr (fun a ha => ?_)
  unfold kScr at ha
  by_cases e : a = 89
  · subst e
    exact b1
  · rw [b2 a e (by omega) (by omega), e2, kCp_ne (by omega), q a (by omega) (by omega)]
theorem i48 {x : Int32} (hc : 0 ≤ x ∧ x ≤ 48) : ∃ N, N ≤ 48 ∧ x = nI N := by
  obtain ⟨N, -, hN, e⟩ := iB 0 48 (by decide) hc.1 hc.2 (by decide)
  exact ⟨N, hN, e⟩
theorem st_home (hd : 9 ≤ d) (hR : kRel h) (a1 a2 : Int32) : kStp G d m_X7_home m_X8_home [.int a1, .int a2] h := by
  obtain ⟨n, H, f, w, hS, hH⟩ := hR.n
  obtain ⟨hn, n1, n2⟩ := hS.1
  have n1 : h 1 12 = nI n := n1
  by_cases hc : 0 ≤ a1 ∧ a1 < nI n
  · by_cases hv : 0 ≤ a2 ∧ a2 ≤ 48
    · obtain ⟨p, hp, rfl⟩ := iI (n := n) (by omega) hc.1 hc.2
      obtain ⟨N, hN, rfl⟩ := i48 hv
      have l := kSh_pl hS hp (i := 0) (by omega)
      have l0 : h 4 p = kPl (kSh (kVw h 1) p 0) := l.1
      refine cg_X7_home (by omega) ⟨fun q => absurd (by rw [n1]; exact hc) (kb_0.mp q), fun _ => ⟨fun _ => ⟨vp_in_nI (by omega) (by decide), ?_⟩, fun q => absurd hv (kb_0.mp q)⟩⟩
      rw [nI_clamp (by omega), l0]
      refine lp_home (by omega) hS hp hN hH ?_ ?_ N 0 h (by omega) (fun _ _ _ => rfl) (fun j hj => absurd hj (Nat.not_lt_zero j)) (Or.inl rfl)
      · intro h1 m q1 hm al z
        have e189 : h1 89 = h 89 := q1 89 (by decide) (by decide)
        refine cg_X8_home (by omega) ⟨fun q => absurd (by rw [e189, n2]; exact (iM (by omega)).mpr hc) (kb_0.mp q), fun _ => ⟨fun _ h2 e2 => ?_, fun q => absurd hv (kb_0.mp q)⟩⟩
        have g2 : h2 89 = h 89 := by rw [e2, kCp_ne (by decide), e189]
        exact lp_mhome (by omega) hp hn hN hH hm al (Or.inl z) (fun _ h3 a3 h4 e4 => ⟨rfl, hR.ahead q1 e2 a3 e4⟩) (fun y => absurd z y) m 0 h2 (by omega) (kAh.start g2 hS)
      · intro h0 q0 al h1 e1
        have o1 : ∀ a, a ≠ 14 → a ≠ 17 → a ≠ 87 → h1 a = h a := fun a x1 x2 x3 => by rw [e1, kErr_ne x3, q0 a x1 x2]
        have e189 : h1 89 = h 89 := o1 89 (by decide) (by decide) (by decide)
        refine cg_X8_home (by omega) ⟨fun q => absurd (by rw [e189, n2]; exact (iM (by omega)).mpr hc) (kb_0.mp q), fun _ => ⟨fun _ h2 e2 => ?_, fun q => absurd hv (kb_0.mp q)⟩⟩
        have g2 : h2 89 = h 89 := by rw [e2, kCp_ne (by decide), e189]
        refine lp_mhome (by omega) hp hn hN hH (Nat.le_refl N) (fun j hj => al j (by omega)) (Or.inr rfl) (fun z => absurd z (al N (Nat.le_refl N))) (fun _ h3 a3 h4 e4 h5 e5 => ⟨rfl, ?_⟩) N 0 h2 (by omega) (kAh.start g2 hS)
        have hR0 : kRel h0 := hR.scr (fun a ha => q0 a (by unfold kScr at ha; omega) (by unfold kScr at ha; omega))
        have hR1 := hR0.err 2
        obtain ⟨b1, b2⟩ := a3.back (fun j hj => by rw [e2, kCp_eq, cpy0, if_pos hj, e189]) e4
        have g0 : h0 89 = h 89 := q0 89 (by decide) (by decide)
        have o4 : ∀ a, a ≠ 92 → a ≠ 95 → a ≠ 96 → h4 a = h1 a := fun a x1 x2 x3 => by
          by_cases e : a = 89
          · subst e
            rw [b1, e189]
          · rw [b2 a e x2 x3, e2, kCp_ne x1]
        refine hR1.scr (fun a ha => ?_)
        unfold kScr at ha
        rw [e5]
        by_cases e : a = 93
        · subst e
          unfold kErr
          rw [kU_eq, kU_eq, o4 93 (by omega) (by omega) (by omega), e1]
          rfl
        · rw [kErr_ne e, kErr_ne e, o4 a (by omega) (by omega) (by omega), e1]
    · refine cg_X7_home (by omega) ⟨fun q => absurd (by rw [n1]; exact hc) (kb_0.mp q), fun _ => ⟨fun q => absurd (kb_n0.mp q) hv, fun _ => ⟨kin7 (n := 1) (by decide), fun h1 e1 => ?_⟩⟩⟩
      have x0 : h1 89 0 = nI n := by rw [e1, kErr_ne (by decide)]; exact n2
      exact cg_X8_home (by omega) ⟨fun q => absurd (by rw [x0]; exact (iM (by omega)).mpr hc) (kb_0.mp q), fun _ => ⟨fun q => absurd (kb_n0.mp q) hv, fun _ => ⟨kin7 (n := 1) (by decide), kErrs hR h1 e1⟩⟩⟩
  · refine cg_X7_home (by omega) ⟨fun _ => ⟨kin7 (n := 1) (by decide), fun h1 e1 => ?_⟩, fun q => absurd (kb_n0.mp q) (by rw [n1]; exact hc)⟩
    have x0 : h1 89 0 = nI n := by rw [e1, kErr_ne (by decide)]; exact n2
    exact cg_X8_home (by omega) ⟨fun _ => ⟨kin7 (n := 1) (by decide), kErrs hR h1 e1⟩, fun q => absurd ((iM (by omega)).mp (by have := kb_n0.mp q; rw [x0] at this; exact this)) hc⟩
end Home

