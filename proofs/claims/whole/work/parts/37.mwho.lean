/-! who: the model, and both -/
section MWho
variable {G : kG} {d : Nat} {Q : Int32 → kM → Prop} {h : kM}
def at_X8_lieSo_4 (G : kG) (d : Nat) (Q : Int32 → kM → Prop)  (v1 : Int32) (v2 : Int32) (v3 : Int32) (h : kM) : Prop := Wp G d m_X8_lieSo (kEo G d m_X8_lieSo Q) 4 [.ref 88, .int v1, .int v2, .int v3] [] h
theorem sg_X8_lieSo_0 {G : kG} {d : Nat} {Q : Int32 → kM → Prop}  {a1 : Int32} {h : kM} (hd : 2 ≤ d)  (H :
    at_X8_lieSo_4 G d Q a1 (1 : Int32) (0 : Int32) h) : Wp G d m_X8_lieSo (kEo G d m_X8_lieSo Q) 0 [.ref 88, .int a1, .null, .null] [] h := by
  refine wp_iconst (1 : Int32) 1 dX8_lieSo_0 kiconst_1 rfl ?_
  refine wp_istore_n 2 dX8_lieSo_1 rfl (Nat.le_of_ble_eq_true rfl) rfl ?_
  refine wp_iconst (0 : Int32) 3 dX8_lieSo_2 kiconst_0 rfl ?_
  refine wp_istore_n 4 dX8_lieSo_3 rfl (Nat.le_of_ble_eq_true rfl) rfl ?_
  exact H

theorem cg_X8_lieSo {G : kG} {d : Nat} {Q : Int32 → kM → Prop}  {a1 : Int32} {h : kM} (hd : 2 ≤ d)  (H :
    at_X8_lieSo_4 G d Q a1 (1 : Int32) (0 : Int32) h) : Cal G d m_X8_lieSo [.ref 88, .int a1] h Q :=
  Cal.of [.ref 88, .int a1, .null, .null] (by decide +kernel) (Nat.le_of_ble_eq_true rfl) rfl (sg_X8_lieSo_0 hd  H)

theorem sg_X8_lieSo_4 {G : kG} {d : Nat} {Q : Int32 → kM → Prop}  {v1 : Int32} {v2 : Int32} {v3 : Int32} {h : kM} (hd : 2 ≤ d)  (H :
    (((h 89 0) ≤ v3 →
      (v2 = 0 ∨ v2 = 1) ∧
      Q v2 h
    ) ∧ (¬ ((h 89 0) ≤ v3) →
      ((v2 = 0 →
        at_X8_lieSo_4 G d Q v1 (0 : Int32) (v3 + (1 : Int32)) h
      ) ∧ (¬ (v2 = 0) →
        (vp_in (((24 : Int32) * v1) + v3) 96) ∧
        (okO v3 (0 : Int32)) ∧
        ((¬ (h 100 ((((24 : Int32) * v1) + v3)).toNatClampNeg) = (mOf (h 89) v3 (0 : Int32)) →
          at_X8_lieSo_4 G d Q v1 (0 : Int32) (v3 + (1 : Int32)) h
        ) ∧ ((h 100 ((((24 : Int32) * v1) + v3)).toNatClampNeg) = (mOf (h 89) v3 (0 : Int32)) →
          at_X8_lieSo_4 G d Q v1 (1 : Int32) (v3 + (1 : Int32)) h
        ))
      ))
    ))) : at_X8_lieSo_4 G d Q v1 v2 v3 h := by
  show Wp G d m_X8_lieSo (kEo G d m_X8_lieSo Q) 4 [.ref 88, .int v1, .int v2, .int v3] [] h
  refine wp_iload_n 5 dX8_lieSo_4 rfl rfl ?_
  refine wp_aload_n 6 dX8_lieSo_5 rfl rfl ?_
  refine wp_getR 1 89 9 dX8_lieSo_6 rfl fl_X8_7 kd_88 rfl rfl rfl rfl ?_
  refine wp_iconst (0 : Int32) 10 dX8_lieSo_9 kiconst_0 rfl ?_
  refine wp_iald 11 dX8_lieSo_10 rfl kd_89 (by unfold vp_in; decide) ?_
  refine wp_icmp_ge 50 14 dX8_lieSo_11 rfl rfl ⟨fun c1 => ?_, fun c1 => ?_⟩
  · replace H := H.1 c1
    refine wp_iload_n 51 dX8_lieSo_50 rfl rfl ?_
    have c2 := H.1; replace H := H.2
    exact wp_retz dX8_lieSo_51 rfl c2 H
  · replace H := H.2 c1
    refine wp_iload_n 15 dX8_lieSo_14 rfl rfl ?_
    refine wp_if_eq 42 18 dX8_lieSo_15 rfl rfl ⟨fun c3 => ?_, fun c3 => ?_⟩
    · replace H := H.1 c3
      refine wp_iconst (0 : Int32) 43 dX8_lieSo_42 kiconst_0 rfl ?_
      refine wp_istore_n 44 dX8_lieSo_43 rfl (Nat.le_of_ble_eq_true rfl) rfl ?_
      refine wp_iinc (1 : Int32) 47 dX8_lieSo_44 rfl rfl kiconst_1 (Nat.le_of_ble_eq_true rfl) rfl ?_
      refine wp_goto 4 dX8_lieSo_47 rfl ?_
      exact H
    · replace H := H.2 c3
      refine wp_aload_n 19 dX8_lieSo_18 rfl rfl ?_
      refine wp_getR 12 100 22 dX8_lieSo_19 rfl fl_X8_43 kd_88 rfl rfl rfl rfl ?_
      refine wp_bipush (24 : Int32) 24 dX8_lieSo_22 kbipush_24 rfl ?_
      refine wp_iload_n 25 dX8_lieSo_24 rfl rfl ?_
      refine wp_imul 26 dX8_lieSo_25 rfl ?_
      refine wp_iload_n 27 dX8_lieSo_26 rfl rfl ?_
      refine wp_iadd 28 dX8_lieSo_27 rfl ?_
      have c4 := H.1; replace H := H.2
      refine wp_iald 29 dX8_lieSo_28 rfl kd_100 c4 ?_
      refine wp_aload_n 30 dX8_lieSo_29 rfl rfl ?_
      refine wp_iload_n 31 dX8_lieSo_30 rfl rfl ?_
      refine wp_iconst (0 : Int32) 32 dX8_lieSo_31 kiconst_0 rfl ?_
      have c5 := H.1; replace H := H.2
      refine wp_cV (d - 1) 2 [.int v3, .int (0 : Int32)] [.int (h 100 ((((24 : Int32) * v1) + v3)).toNatClampNeg)] 35 dX8_lieSo_32 rfl (lk_X8_146 rfl) (by omega) kd_88 rfl rfl rfl (Nat.le_of_ble_eq_true rfl) (sp_X8_of (by omega) c5 ?_)
      refine wp_icmp_ne 42 38 dX8_lieSo_35 rfl rfl ⟨fun c6 => ?_, fun c6 => ?_⟩
      · replace H := H.1 c6
        refine wp_iconst (0 : Int32) 43 dX8_lieSo_42 kiconst_0 rfl ?_
        refine wp_istore_n 44 dX8_lieSo_43 rfl (Nat.le_of_ble_eq_true rfl) rfl ?_
        refine wp_iinc (1 : Int32) 47 dX8_lieSo_44 rfl rfl kiconst_1 (Nat.le_of_ble_eq_true rfl) rfl ?_
        refine wp_goto 4 dX8_lieSo_47 rfl ?_
        exact H
      · replace H := H.2 c6
        refine wp_iconst (1 : Int32) 39 dX8_lieSo_38 kiconst_1 rfl ?_
        refine wp_goto 43 dX8_lieSo_39 rfl ?_
        refine wp_istore_n 44 dX8_lieSo_43 rfl (Nat.le_of_ble_eq_true rfl) rfl ?_
        refine wp_iinc (1 : Int32) 47 dX8_lieSo_44 rfl rfl kiconst_1 (Nat.le_of_ble_eq_true rfl) rfl ?_
        refine wp_goto 4 dX8_lieSo_47 rfl ?_
        exact H

theorem sg_X8_lieBy_0 {G : kG} {d : Nat} {Q : Int32 → kM → Prop}  {a1 : Int32} {a2 : Int32} {a3 : Int32} {a4 : Int32} {h : kM} (hd : 9 ≤ d)  (H :
    Cal G (d - 1) m_X8_go [.ref 88, .int a4] h (fun x1 h2 =>
      (okI a3 3 ∧ okO (a3 / 3) 2) ∧
      (((kb (mIt (h2 89) a3 3 = -1 ∧ kDay (h2 89 1) ∧ ¬ mOf (h2 89) (a3 / 3) 2 = 1)) = 0 →
        ∀ h6 : kM, h6 = kCp h2 92 89 0 0 147 →
        Q (0 : Int32) h6
      ) ∧ (¬ ((kb (mIt (h2 89) a3 3 = -1 ∧ kDay (h2 89 1) ∧ ¬ mOf (h2 89) (a3 / 3) 2 = 1)) = 0) →
        (okI a3 3) ∧
        ∀ h8 : kM, h8 = mLo h2 a3 →
        Cal G (d - 1) m_X8_go [.ref 88, .int (a2 - a4)] h8 (fun x9 h10 =>
          Cal G (d - 1) m_X8_lieSo [.ref 88, .int a1] h10 (fun x12 h13 =>
            ((x12 = 0 →
              ∀ h15 : kM, h15 = kCp h13 92 89 0 0 147 →
              Q (0 : Int32) h15
            ) ∧ (¬ (x12 = 0) →
              ∀ h16 : kM, h16 = kCp h13 92 89 0 0 147 →
              Q (1 : Int32) h16
            ))
          )
        )
      ))
    )) : Wp G d m_X8_lieBy (kEo G d m_X8_lieBy Q) 0 [.ref 88, .int a1, .int a2, .int a3, .int a4, .null, .null] [] h := by
  refine wp_aload_n 1 dX8_lieBy_0 rfl rfl ?_
  refine wp_iload 3 dX8_lieBy_1 rfl rfl ?_
  refine wp_cV (d - 1) 1 [.int a4] [] 6 dX8_lieBy_3 rfl (lk_X8_190 rfl) (by omega) kd_88 rfl rfl rfl (Nat.le_of_ble_eq_true rfl) (H.mono (fun x1 h2 H => ?_))
  refine wp_aload_n 7 dX8_lieBy_6 rfl rfl ?_
  refine wp_iload_n 8 dX8_lieBy_7 rfl rfl ?_
  have c3 := H.1; replace H := H.2
  refine wp_cV (d - 1) 1 [.int a3] [] 11 dX8_lieBy_8 rfl (lk_X8_174 rfl) (by omega) kd_88 rfl rfl rfl (Nat.le_of_ble_eq_true rfl) (sp_X8_mayLoose (by omega) c3 ?_)
  refine wp_istore 13 dX8_lieBy_11 rfl (Nat.le_of_ble_eq_true rfl) rfl ?_
  refine wp_iload 15 dX8_lieBy_13 rfl rfl ?_
  refine wp_if_eq 31 18 dX8_lieBy_15 rfl rfl ⟨fun c4 => ?_, fun c4 => ?_⟩
  · replace H := H.1 c4
    refine wp_iload 33 dX8_lieBy_31 rfl rfl ?_
    refine wp_if_eq 48 36 dX8_lieBy_33 rfl rfl ⟨fun c5 => ?_, fun c5 => absurd c4 c5⟩
    refine wp_iconst (0 : Int32) 49 dX8_lieBy_48 kiconst_0 rfl ?_
    refine wp_istore 51 dX8_lieBy_49 rfl (Nat.le_of_ble_eq_true rfl) rfl ?_
    refine wp_aload_n 52 dX8_lieBy_51 rfl rfl ?_
    refine wp_iconst (0 : Int32) 53 dX8_lieBy_52 kiconst_0 rfl ?_
    refine wp_cV (d - 1) 1 [.int (0 : Int32)] [] 56 dX8_lieBy_53 rfl (lk_X8_203 rfl) (by omega) kd_88 rfl rfl rfl (Nat.le_of_ble_eq_true rfl) (sp_X8_layBack (by omega)  (fun h6 eh6 => ?_))
    replace H := H h6 eh6
    refine wp_iload 58 dX8_lieBy_56 rfl rfl ?_
    exact wp_retz dX8_lieBy_58 rfl (Or.inl rfl) H
  · replace H := H.2 c4
    refine wp_aload_n 19 dX8_lieBy_18 rfl rfl ?_
    refine wp_iload_n 20 dX8_lieBy_19 rfl rfl ?_
    have c7 := H.1; replace H := H.2
    refine wp_cV (d - 1) 1 [.int a3] [] 23 dX8_lieBy_20 rfl (lk_X8_177 rfl) (by omega) kd_88 rfl rfl rfl (Nat.le_of_ble_eq_true rfl) (sp_X8_looses (by omega) c7 (fun h8 eh8 => ?_))
    replace H := H h8 eh8
    refine wp_aload_n 24 dX8_lieBy_23 rfl rfl ?_
    refine wp_iload_n 25 dX8_lieBy_24 rfl rfl ?_
    refine wp_iload 27 dX8_lieBy_25 rfl rfl ?_
    refine wp_isub 28 dX8_lieBy_27 rfl ?_
    refine wp_cV (d - 1) 1 [.int (a2 - a4)] [] 31 dX8_lieBy_28 rfl (lk_X8_190 rfl) (by omega) kd_88 rfl rfl rfl (Nat.le_of_ble_eq_true rfl) (H.mono (fun x9 h10 H => ?_))
    refine wp_iload 33 dX8_lieBy_31 rfl rfl ?_
    refine wp_if_eq 48 36 dX8_lieBy_33 rfl rfl ⟨fun c11 => absurd c11 c4, fun c11 => ?_⟩
    refine wp_aload_n 37 dX8_lieBy_36 rfl rfl ?_
    refine wp_iload_n 38 dX8_lieBy_37 rfl rfl ?_
    refine wp_cV (d - 1) 1 [.int a1] [] 41 dX8_lieBy_38 rfl (lk_X8_227 rfl) (by omega) kd_88 rfl rfl rfl (Nat.le_of_ble_eq_true rfl) (H.mono (fun x12 h13 H => ?_))
    refine wp_if_eq 48 44 dX8_lieBy_41 rfl rfl ⟨fun c14 => ?_, fun c14 => ?_⟩
    · replace H := H.1 c14
      refine wp_iconst (0 : Int32) 49 dX8_lieBy_48 kiconst_0 rfl ?_
      refine wp_istore 51 dX8_lieBy_49 rfl (Nat.le_of_ble_eq_true rfl) rfl ?_
      refine wp_aload_n 52 dX8_lieBy_51 rfl rfl ?_
      refine wp_iconst (0 : Int32) 53 dX8_lieBy_52 kiconst_0 rfl ?_
      refine wp_cV (d - 1) 1 [.int (0 : Int32)] [] 56 dX8_lieBy_53 rfl (lk_X8_203 rfl) (by omega) kd_88 rfl rfl rfl (Nat.le_of_ble_eq_true rfl) (sp_X8_layBack (by omega)  (fun h15 eh15 => ?_))
      replace H := H h15 eh15
      refine wp_iload 58 dX8_lieBy_56 rfl rfl ?_
      exact wp_retz dX8_lieBy_58 rfl (Or.inl rfl) H
    · replace H := H.2 c14
      refine wp_iconst (1 : Int32) 45 dX8_lieBy_44 kiconst_1 rfl ?_
      refine wp_goto 49 dX8_lieBy_45 rfl ?_
      refine wp_istore 51 dX8_lieBy_49 rfl (Nat.le_of_ble_eq_true rfl) rfl ?_
      refine wp_aload_n 52 dX8_lieBy_51 rfl rfl ?_
      refine wp_iconst (0 : Int32) 53 dX8_lieBy_52 kiconst_0 rfl ?_
      refine wp_cV (d - 1) 1 [.int (0 : Int32)] [] 56 dX8_lieBy_53 rfl (lk_X8_203 rfl) (by omega) kd_88 rfl rfl rfl (Nat.le_of_ble_eq_true rfl) (sp_X8_layBack (by omega)  (fun h16 eh16 => ?_))
      replace H := H h16 eh16
      refine wp_iload 58 dX8_lieBy_56 rfl rfl ?_
      exact wp_retz dX8_lieBy_58 rfl (Or.inr rfl) H

theorem cg_X8_lieBy {G : kG} {d : Nat} {Q : Int32 → kM → Prop}  {a1 : Int32} {a2 : Int32} {a3 : Int32} {a4 : Int32} {h : kM} (hd : 9 ≤ d)  (H :
    Cal G (d - 1) m_X8_go [.ref 88, .int a4] h (fun x1 h2 =>
      (okI a3 3 ∧ okO (a3 / 3) 2) ∧
      (((kb (mIt (h2 89) a3 3 = -1 ∧ kDay (h2 89 1) ∧ ¬ mOf (h2 89) (a3 / 3) 2 = 1)) = 0 →
        ∀ h6 : kM, h6 = kCp h2 92 89 0 0 147 →
        Q (0 : Int32) h6
      ) ∧ (¬ ((kb (mIt (h2 89) a3 3 = -1 ∧ kDay (h2 89 1) ∧ ¬ mOf (h2 89) (a3 / 3) 2 = 1)) = 0) →
        (okI a3 3) ∧
        ∀ h8 : kM, h8 = mLo h2 a3 →
        Cal G (d - 1) m_X8_go [.ref 88, .int (a2 - a4)] h8 (fun x9 h10 =>
          Cal G (d - 1) m_X8_lieSo [.ref 88, .int a1] h10 (fun x12 h13 =>
            ((x12 = 0 →
              ∀ h15 : kM, h15 = kCp h13 92 89 0 0 147 →
              Q (0 : Int32) h15
            ) ∧ (¬ (x12 = 0) →
              ∀ h16 : kM, h16 = kCp h13 92 89 0 0 147 →
              Q (1 : Int32) h16
            ))
          )
        )
      ))
    )) : Cal G d m_X8_lieBy [.ref 88, .int a1, .int a2, .int a3, .int a4] h Q :=
  Cal.of [.ref 88, .int a1, .int a2, .int a3, .int a4, .null, .null] (by decide +kernel) (Nat.le_of_ble_eq_true rfl) rfl (sg_X8_lieBy_0 hd  H)

theorem sp_X8_lieSo (hd : 2 ≤ d) {W : kM} {n H f w s : Nat} {Y : Nat → Int32} (hS : kSRn W (h 89) n H f w) (hs : s < 4) (hY : ∀ p, p < n → h 100 (24 * s + p) = Y p) (k : Q (kLy Y W n) h) : Cal G d m_X8_lieSo [.ref 88, .int (nI s)] h Q := by
  have hn := hS.1.1
  have e0 : h 89 0 = nI n := hS.1.2.2
  have lp : ∀ (m i : Nat), i + m = n → at_X8_lieSo_4 G d Q (nI s) (kLy Y W i) (nI i) h := by
    intro m
    induction m with
    | zero =>
      intro i hi
      have hi2 : i = n := by omega
      subst hi2
      exact sg_X8_lieSo_4 hd ⟨fun _ => ⟨kLy_01 i, k⟩, fun z => absurd (by rw [e0]; exact nI_le (Nat.le_refl _) (by omega)) z⟩
    | succ m ih =>
      intro i hi
      obtain ⟨x, x1, x2, x3, x4, x5, x6, x7, x8, x9⟩ := (hS.2.2.2.2.2.2.2.1 i (by omega)).xy
      have r := ih (i + 1) (by omega)
      refine sg_X8_lieSo_4 hd ⟨fun z => absurd z (by rw [e0]; exact ltn (nI_lt (by omega) (by omega))), fun _ => ?_⟩
      rw [ix24, nI_clamp (by omega), mOf_0 (by omega), x6, hY i (by omega), nI_1]
      refine ⟨fun z => ?_, fun z => ⟨vp_in_nI (by omega) (by decide), okO_n (w := 0) (by omega) (by decide), fun c => ?_, fun c => ?_⟩⟩
      · rw [kLy_z z] at r
        exact r
      · rw [kLy_x (by rw [x5]; exact c)] at r
        exact r
      · rw [kLy_y z (by rw [x5]; exact c)] at r
        exact r
  exact cg_X8_lieSo hd (lp n 0 (by omega))
theorem sp_X8_lieBy (hd : 9 ≤ d) {v : kM} {n H f w s N k t : Nat} {Y : Nat → Int32} (hS : kSRn v (h 89) n H f w) (hs : s < 4) (hN : N ≤ 24) (hH : H ≤ 9999) (hk : k < 3 * n) (ht : t < N) (h92 : ∀ j, j < 147 → h 92 j = h 89 j) (hY : ∀ p, p < n → h 100 (24 * s + p) = Y p) (kk : ∀ h1, h1 89 = h 89 → (∀ a, a ≠ 89 → a ≠ 95 → a ≠ 96 → h1 a = h a) → Q (kRt Y v N n k t) h1) : Cal G d m_X8_lieBy [.ref 88, .int (nI s), .int (nI N), .int (nI k), .int (nI t)] h Q := by
  have hn := hS.1.1
  have e3 : nI k / 3 = nI (k / 3) := pk_div (by omega) (by decide) (by decide)
  refine cg_X8_lieBy hd (sp_X8_goI (d := d - 1) (by omega) (i0 := 0) (by omega) (by omega) (kAh.start rfl hS) (fun h2 a2 => ?_))
  rw [Nat.zero_add] at a2
  obtain ⟨t', mm, wy, ht', hm', hwy, y1, y2, y3, y4, y5, y6, y7⟩ := a2.2.2.2.2.2.2.2.2.2.2.1 k hk
  have y7 : h2 89 (90 + 4 * k) = v 8 k := by rw [← y7, kHrN_c (by decide) (by decide) t]
  have g1 : h2 89 1 = nI (H + t) := a2.2.2.2.1.2.2
  have g13 : v 0 13 + nI t = nI (H + t) := by rw [hS.2.1.2.1, nI_add]
  obtain ⟨-, s2, -, -⟩ := a2.ship (p := k / 3) (by omega)
  rw [e3, mIt_3 (by omega), mOf_2 (by omega), y7, g1, s2, pk_sub (by omega)]
  refine ⟨⟨okI_n (w := 3) (by omega) (by decide), okO_n (w := 2) (by omega) (by decide)⟩, fun z h6 e6 => ?_, fun z => ⟨okI_n (w := 3) (by omega) (by decide), fun h8 e8 => ?_⟩⟩
  · obtain ⟨b1, b2⟩ := a2.back2 (g0 := h 89) h92 (fun _ _ => rfl) e6
    have nm : ¬ kMq v k t := by
      unfold kMq
      rw [g13]
      exact kb_0.mp z
    have r := kk h6 b1 b2
    rw [show kRt Y v N n k t = 0 from if_neg nm] at r
    exact r
  · have hm : kMq v k t := by
      unfold kMq
      rw [g13]
      exact kb_n0.mp z
    rw [mLo_n (by omega), g1] at e8
    have g8 : h8 89 = upd (h2 89) (90 + 4 * k) (nI (H + t)) := by rw [e8, kU_eq]
    have o8 : ∀ a, a ≠ 89 → h8 a = h2 a := fun a ha => by rw [e8, kU_ne ha]
    have hL : kSRn (kUp v t k) (h8 89) n (H + t) f w := a2.2.2.lo hk kVEq.rf g8
    refine sp_X8_goI (d := d - 1) (by omega) (i0 := 0) (by omega) (by omega) (kAh.start rfl hL) (fun h10 a10 => ?_)
    rw [Nat.zero_add] at a10
    refine sp_X8_lieSo (Y := Y) (d := d - 1) (by omega) a10.2.2 hs (fun p hp => by rw [a10.1 100 (by decide) (by decide) (by decide), o8 100 (by decide), a2.1 100 (by decide) (by decide) (by decide)]; exact hY p hp) ?_
    have fin : ∀ y h15, y = kLy Y (kHrN (kUp v t k) (N - t)) n → h15 = kCp h10 92 89 0 0 147 → Q y h15 := fun y h15 ey e15 => by
      obtain ⟨b1, b2⟩ := a10.back2 (g0 := h 89) (fun j hj => by rw [o8 92 (by decide), a2.1 92 (by decide) (by decide) (by decide)]; exact h92 j hj) (fun j hj => by rw [g8, pk_un (by omega)]; exact a2.2.1 j (by omega) (by omega)) e15
      have r := kk h15 b1 (fun a z1 z2 z3 => by rw [b2 a z1 z2 z3, o8 a z1, a2.1 a z1 z2 z3])
      rw [show kRt Y v N n k t = kLy Y (kHrN (kUp v t k) (N - t)) n from if_pos hm, ← ey] at r
      exact r
    exact ⟨fun z h15 e15 => fin 0 h15 z.symm e15, fun z h16 e16 => fin 1 h16 ((kLy_01 n).resolve_left z).symm e16⟩
/-- a knot named -/
def kNk (x : Int32) : Int32 := 10 * (x / 3) + iR x 3
theorem kNk_n {k : Nat} (hk : k < 15) : kNk (nI k) = nI (10 * (k / 3) + k % 3) := by
  unfold kNk
  have e1 : nI k / 3 = nI (k / 3) := pk_div (by omega) (by decide) (by decide)
  have e2 : iR (nI k) 3 = nI (k % 3) := pk_rem (d := 3) (by omega) (by decide) (by decide)
  rw [e1, e2]
  show nI 10 * nI (k / 3) + nI (k % 3) = _
  rw [pk_mul, nI_add]
def kFi (F : Int32 × Nat × Int32) : Int32 := if F.2.1 = 0 then -1 else kNk F.2.2
theorem kFi_0 {X : Nat → Int32} {v : kM} {N n k : Nat} (hk : k ≤ 15) : kFi (kWf X v N n k) = -1 ↔ (kWf X v N n k).2.1 = 0 := by
  unfold kFi
  by_cases z : (kWf X v N n k).2.1 = 0
  · rw [if_pos z]
    exact ⟨fun _ => z, fun _ => rfl⟩
  · rw [if_neg z]
    obtain ⟨j, hj, e⟩ := (kWf_f k).2.resolve_left z
    rw [e, kNk_n (by omega)]
    exact ⟨fun y => absurd y (nI_m1 (by omega)), fun y => absurd y z⟩
def at_X8_who_130 (G : kG) (d : Nat) (Q : Int32 → kM → Prop)  (v1 : Int32) (v2 : Int32) (v3 : Int32) (v4 : Int32) (v5 : Int32) (v6 : Int32) (v7 : Int32) (h : kM) : Prop := Wp G d m_X8_who (kEo G d m_X8_who Q) 130 [.ref 88, .int v1, .int v2, .int v3, .int v4, .int v5, .int v6, .int v7, .null, .null] [] h
def at_X8_who_149 (G : kG) (d : Nat) (Q : Int32 → kM → Prop)  (v1 : Int32) (v2 : Int32) (v3 : Int32) (v4 : Int32) (v5 : Int32) (v6 : Int32) (v7 : Int32) (v8 : Int32) (v9 : Int32) (h : kM) : Prop := Wp G d m_X8_who (kEo G d m_X8_who Q) 149 [.ref 88, .int v1, .int v2, .int v3, .int v4, .int v5, .int v6, .int v7, .int v8, .int v9] [] h
theorem sg_X8_who_0 {G : kG} {d : Nat} {Q : Int32 → kM → Prop}  {a1 : Int32} {a2 : Int32} {a3 : Int32} {h : kM} (hd : 10 ≤ d)  (H :
    (((kb (0 ≤ a1 ∧ a1 ≤ 3)) = 0 →
      (vp_in (1 : Int32) 7) ∧
      ∀ h3 : kM, h3 = kErr h 93 (1 : Int32) →
      Q (-1000000000 - (1 : Int32)) h3
    ) ∧ (¬ ((kb (0 ≤ a1 ∧ a1 ≤ 3)) = 0) →
      (((kb ((1 : Int32) ≤ a2 ∧ a2 ≤ (24 : Int32))) = 0 →
        (vp_in (1 : Int32) 7) ∧
        ∀ h6 : kM, h6 = kErr h 93 (1 : Int32) →
        Q (-1000000000 - (1 : Int32)) h6
      ) ∧ (¬ ((kb ((1 : Int32) ≤ a2 ∧ a2 ≤ (24 : Int32))) = 0) →
        ((¬ (kb ((0 : Int32) ≤ a3 ∧ a3 ≤ (2 : Int32))) = 0 →
          (((h 88 4) = 0 →
            (vp_in (2 : Int32) 7) ∧
            ∀ h10 : kM, h10 = kErr h 93 (2 : Int32) →
            Q (-1000000000 - (2 : Int32)) h10
          ) ∧ (¬ ((h 88 4) = 0) →
            (vp_in a1 4) ∧
            (((h 98 (a1).toNatClampNeg) = 0 →
              (vp_in (2 : Int32) 7) ∧
              ∀ h14 : kM, h14 = kErr h 93 (2 : Int32) →
              Q (-1000000000 - (2 : Int32)) h14
            ) ∧ (¬ ((h 98 (a1).toNatClampNeg) = 0) →
              (vp_in a1 4) ∧
              (((h 90 0) ≤ (h 99 (a1).toNatClampNeg) →
                (91 ≠ 89) ∧
                ∀ h18 : kM, h18 = kCp h 89 91 0 0 481 →
                (89 ≠ 90) ∧
                ∀ h20 : kM, h20 = kCp h18 90 89 0 0 481 →
                ∀ h21 : kM, h21 = kCp h20 89 92 0 0 147 →
                Cal G (d - 1) m_X8_go [.ref 88, .int a2] h21 (fun x22 h23 =>
                  Cal G (d - 1) m_X8_lieSo [.ref 88, .int a1] h23 (fun x24 h25 =>
                    ((x24 = 0 →
                      ∀ h27 : kM, h27 = kCp h25 92 89 0 0 147 →
                      at_X8_who_130 G d Q a1 a2 a3 (0 : Int32) (0 : Int32) (-1 : Int32) (0 : Int32) h27
                    ) ∧ (¬ (x24 = 0) →
                      ∀ h28 : kM, h28 = kCp h25 92 89 0 0 147 →
                      at_X8_who_130 G d Q a1 a2 a3 (1 : Int32) (0 : Int32) (-1 : Int32) (0 : Int32) h28
                    ))
                  )
                )
              ) ∧ (¬ ((h 90 0) ≤ (h 99 (a1).toNatClampNeg)) →
                (vp_in (2 : Int32) 7) ∧
                ∀ h30 : kM, h30 = kErr h 93 (2 : Int32) →
                Q (-1000000000 - (2 : Int32)) h30
              ))
            ))
          ))
        ) ∧ ((kb ((0 : Int32) ≤ a3 ∧ a3 ≤ (2 : Int32))) = 0 →
          (vp_in (1 : Int32) 7) ∧
          ∀ h32 : kM, h32 = kErr h 93 (1 : Int32) →
          Q (-1000000000 - (1 : Int32)) h32
        ))
      ))
    ))) : Wp G d m_X8_who (kEo G d m_X8_who Q) 0 [.ref 88, .int a1, .int a2, .int a3, .null, .null, .null, .null, .null, .null] [] h := by
  refine wp_iload_n 1 dX8_who_0 rfl rfl ?_
  refine wp_cS (d - 1) 1 [.int a1] [] 4 dX8_who_1 rfl (lk_X8_230 rfl) (by omega) rfl rfl (Nat.le_of_ble_eq_true rfl) (sp_X8_isSheet (by omega)  ?_)
  refine wp_if_eq 26 7 dX8_who_4 rfl rfl ⟨fun c1 => ?_, fun c1 => ?_⟩
  · replace H := H.1 c1
    refine wp_aload_n 27 dX8_who_26 rfl rfl ?_
    refine wp_iconst (1 : Int32) 28 dX8_who_27 kiconst_1 rfl ?_
    have c2 := H.1; replace H := H.2
    refine wp_cV (d - 1) 1 [.int (1 : Int32)] [] 31 dX8_who_28 rfl (lk_X8_62 rfl) (by omega) kd_88 rfl rfl rfl (Nat.le_of_ble_eq_true rfl) (sp_X8_error (by omega) c2 (fun h3 eh3 => ?_))
    replace H := H h3 eh3
    exact wp_reti dX8_who_31 rfl H
  · replace H := H.2 c1
    refine wp_iload_n 8 dX8_who_7 rfl rfl ?_
    refine wp_iconst (1 : Int32) 9 dX8_who_8 kiconst_1 rfl ?_
    refine wp_bipush (24 : Int32) 11 dX8_who_9 kbipush_24 rfl ?_
    refine wp_cS (d - 1) 3 [.int a2, .int (1 : Int32), .int (24 : Int32)] [] 14 dX8_who_11 rfl (lk_X8_50 rfl) (by omega) rfl rfl (Nat.le_of_ble_eq_true rfl) (sp_X8_in (by omega)  ?_)
    refine wp_if_eq 26 17 dX8_who_14 rfl rfl ⟨fun c4 => ?_, fun c4 => ?_⟩
    · replace H := H.1 c4
      refine wp_aload_n 27 dX8_who_26 rfl rfl ?_
      refine wp_iconst (1 : Int32) 28 dX8_who_27 kiconst_1 rfl ?_
      have c5 := H.1; replace H := H.2
      refine wp_cV (d - 1) 1 [.int (1 : Int32)] [] 31 dX8_who_28 rfl (lk_X8_62 rfl) (by omega) kd_88 rfl rfl rfl (Nat.le_of_ble_eq_true rfl) (sp_X8_error (by omega) c5 (fun h6 eh6 => ?_))
      replace H := H h6 eh6
      exact wp_reti dX8_who_31 rfl H
    · replace H := H.2 c4
      refine wp_iload_n 18 dX8_who_17 rfl rfl ?_
      refine wp_iconst (0 : Int32) 19 dX8_who_18 kiconst_0 rfl ?_
      refine wp_iconst (2 : Int32) 20 dX8_who_19 kiconst_2 rfl ?_
      refine wp_cS (d - 1) 3 [.int a3, .int (0 : Int32), .int (2 : Int32)] [] 23 dX8_who_20 rfl (lk_X8_50 rfl) (by omega) rfl rfl (Nat.le_of_ble_eq_true rfl) (sp_X8_in (by omega)  ?_)
      refine wp_if_ne 32 26 dX8_who_23 rfl rfl ⟨fun c7 => ?_, fun c7 => ?_⟩
      · replace H := H.1 c7
        refine wp_aload_n 33 dX8_who_32 rfl rfl ?_
        refine wp_getI 36 dX8_who_33 rfl fl_X8_233 kd_88 rfl ?_
        refine wp_if_eq 63 39 dX8_who_36 rfl rfl ⟨fun c8 => ?_, fun c8 => ?_⟩
        · replace H := H.1 c8
          refine wp_aload_n 64 dX8_who_63 rfl rfl ?_
          refine wp_iconst (2 : Int32) 65 dX8_who_64 kiconst_2 rfl ?_
          have c9 := H.1; replace H := H.2
          refine wp_cV (d - 1) 1 [.int (2 : Int32)] [] 68 dX8_who_65 rfl (lk_X8_62 rfl) (by omega) kd_88 rfl rfl rfl (Nat.le_of_ble_eq_true rfl) (sp_X8_error (by omega) c9 (fun h10 eh10 => ?_))
          replace H := H h10 eh10
          exact wp_reti dX8_who_68 rfl H
        · replace H := H.2 c8
          refine wp_aload_n 40 dX8_who_39 rfl rfl ?_
          refine wp_getR 10 98 43 dX8_who_40 rfl fl_X8_37 kd_88 rfl rfl rfl rfl ?_
          refine wp_iload_n 44 dX8_who_43 rfl rfl ?_
          have c11 := H.1; replace H := H.2
          refine wp_iald 45 dX8_who_44 rfl kd_98 c11 ?_
          refine wp_if_eq 63 48 dX8_who_45 rfl rfl ⟨fun c12 => ?_, fun c12 => ?_⟩
          · replace H := H.1 c12
            refine wp_aload_n 64 dX8_who_63 rfl rfl ?_
            refine wp_iconst (2 : Int32) 65 dX8_who_64 kiconst_2 rfl ?_
            have c13 := H.1; replace H := H.2
            refine wp_cV (d - 1) 1 [.int (2 : Int32)] [] 68 dX8_who_65 rfl (lk_X8_62 rfl) (by omega) kd_88 rfl rfl rfl (Nat.le_of_ble_eq_true rfl) (sp_X8_error (by omega) c13 (fun h14 eh14 => ?_))
            replace H := H h14 eh14
            exact wp_reti dX8_who_68 rfl H
          · replace H := H.2 c12
            refine wp_aload_n 49 dX8_who_48 rfl rfl ?_
            refine wp_getR 11 99 52 dX8_who_49 rfl fl_X8_40 kd_88 rfl rfl rfl rfl ?_
            refine wp_iload_n 53 dX8_who_52 rfl rfl ?_
            have c15 := H.1; replace H := H.2
            refine wp_iald 54 dX8_who_53 rfl kd_99 c15 ?_
            refine wp_aload_n 55 dX8_who_54 rfl rfl ?_
            refine wp_getR 2 90 58 dX8_who_55 rfl fl_X8_13 kd_88 rfl rfl rfl rfl ?_
            refine wp_iconst (0 : Int32) 59 dX8_who_58 kiconst_0 rfl ?_
            refine wp_iald 60 dX8_who_59 rfl kd_90 (by unfold vp_in; decide) ?_
            refine wp_icmp_ge 69 63 dX8_who_60 rfl rfl ⟨fun c16 => ?_, fun c16 => ?_⟩
            · replace H := H.1 c16
              refine wp_aload_n 70 dX8_who_69 rfl rfl ?_
              refine wp_getR 1 89 73 dX8_who_70 rfl fl_X8_7 kd_88 rfl rfl rfl rfl ?_
              refine wp_aload_n 74 dX8_who_73 rfl rfl ?_
              refine wp_getR 3 91 77 dX8_who_74 rfl fl_X8_16 kd_88 rfl rfl rfl rfl ?_
              have c17 := H.1; replace H := H.2
              refine wp_cS (d - 1) 2 [.ref 89, .ref 91] [] 80 dX8_who_77 rfl (lk_X8_236 rfl) (by omega) rfl rfl (Nat.le_of_ble_eq_true rfl) (sp_X8_carry (by omega) kd_89 kd_91 c17 (fun h18 eh18 => ?_))
              replace H := H h18 eh18
              refine wp_aload_n 81 dX8_who_80 rfl rfl ?_
              refine wp_getR 2 90 84 dX8_who_81 rfl fl_X8_13 kd_88 rfl rfl rfl rfl ?_
              refine wp_aload_n 85 dX8_who_84 rfl rfl ?_
              refine wp_getR 1 89 88 dX8_who_85 rfl fl_X8_7 kd_88 rfl rfl rfl rfl ?_
              have c19 := H.1; replace H := H.2
              refine wp_cS (d - 1) 2 [.ref 90, .ref 89] [] 91 dX8_who_88 rfl (lk_X8_236 rfl) (by omega) rfl rfl (Nat.le_of_ble_eq_true rfl) (sp_X8_carry (by omega) kd_90 kd_89 c19 (fun h20 eh20 => ?_))
              replace H := H h20 eh20
              refine wp_aload_n 92 dX8_who_91 rfl rfl ?_
              refine wp_iconst (0 : Int32) 93 dX8_who_92 kiconst_0 rfl ?_
              refine wp_cV (d - 1) 1 [.int (0 : Int32)] [] 96 dX8_who_93 rfl (lk_X8_200 rfl) (by omega) kd_88 rfl rfl rfl (Nat.le_of_ble_eq_true rfl) (sp_X8_layDown (by omega)  (fun h21 eh21 => ?_))
              replace H := H h21 eh21
              refine wp_aload_n 97 dX8_who_96 rfl rfl ?_
              refine wp_iload_n 98 dX8_who_97 rfl rfl ?_
              refine wp_cV (d - 1) 1 [.int a2] [] 101 dX8_who_98 rfl (lk_X8_190 rfl) (by omega) kd_88 rfl rfl rfl (Nat.le_of_ble_eq_true rfl) (H.mono (fun x22 h23 H => ?_))
              refine wp_aload_n 102 dX8_who_101 rfl rfl ?_
              refine wp_iload_n 103 dX8_who_102 rfl rfl ?_
              refine wp_cV (d - 1) 1 [.int a1] [] 106 dX8_who_103 rfl (lk_X8_227 rfl) (by omega) kd_88 rfl rfl rfl (Nat.le_of_ble_eq_true rfl) (H.mono (fun x24 h25 H => ?_))
              refine wp_if_eq 113 109 dX8_who_106 rfl rfl ⟨fun c26 => ?_, fun c26 => ?_⟩
              · replace H := H.1 c26
                refine wp_iconst (0 : Int32) 114 dX8_who_113 kiconst_0 rfl ?_
                refine wp_istore 116 dX8_who_114 rfl (Nat.le_of_ble_eq_true rfl) rfl ?_
                refine wp_aload_n 117 dX8_who_116 rfl rfl ?_
                refine wp_iconst (0 : Int32) 118 dX8_who_117 kiconst_0 rfl ?_
                refine wp_cV (d - 1) 1 [.int (0 : Int32)] [] 121 dX8_who_118 rfl (lk_X8_203 rfl) (by omega) kd_88 rfl rfl rfl (Nat.le_of_ble_eq_true rfl) (sp_X8_layBack (by omega)  (fun h27 eh27 => ?_))
                replace H := H h27 eh27
                refine wp_iconst (0 : Int32) 122 dX8_who_121 kiconst_0 rfl ?_
                refine wp_istore 124 dX8_who_122 rfl (Nat.le_of_ble_eq_true rfl) rfl ?_
                refine wp_iconst (-1 : Int32) 125 dX8_who_124 kiconst_m1 rfl ?_
                refine wp_istore 127 dX8_who_125 rfl (Nat.le_of_ble_eq_true rfl) rfl ?_
                refine wp_iconst (0 : Int32) 128 dX8_who_127 kiconst_0 rfl ?_
                refine wp_istore 130 dX8_who_128 rfl (Nat.le_of_ble_eq_true rfl) rfl ?_
                exact H
              · replace H := H.2 c26
                refine wp_iconst (1 : Int32) 110 dX8_who_109 kiconst_1 rfl ?_
                refine wp_goto 114 dX8_who_110 rfl ?_
                refine wp_istore 116 dX8_who_114 rfl (Nat.le_of_ble_eq_true rfl) rfl ?_
                refine wp_aload_n 117 dX8_who_116 rfl rfl ?_
                refine wp_iconst (0 : Int32) 118 dX8_who_117 kiconst_0 rfl ?_
                refine wp_cV (d - 1) 1 [.int (0 : Int32)] [] 121 dX8_who_118 rfl (lk_X8_203 rfl) (by omega) kd_88 rfl rfl rfl (Nat.le_of_ble_eq_true rfl) (sp_X8_layBack (by omega)  (fun h28 eh28 => ?_))
                replace H := H h28 eh28
                refine wp_iconst (0 : Int32) 122 dX8_who_121 kiconst_0 rfl ?_
                refine wp_istore 124 dX8_who_122 rfl (Nat.le_of_ble_eq_true rfl) rfl ?_
                refine wp_iconst (-1 : Int32) 125 dX8_who_124 kiconst_m1 rfl ?_
                refine wp_istore 127 dX8_who_125 rfl (Nat.le_of_ble_eq_true rfl) rfl ?_
                refine wp_iconst (0 : Int32) 128 dX8_who_127 kiconst_0 rfl ?_
                refine wp_istore 130 dX8_who_128 rfl (Nat.le_of_ble_eq_true rfl) rfl ?_
                exact H
            · replace H := H.2 c16
              refine wp_aload_n 64 dX8_who_63 rfl rfl ?_
              refine wp_iconst (2 : Int32) 65 dX8_who_64 kiconst_2 rfl ?_
              have c29 := H.1; replace H := H.2
              refine wp_cV (d - 1) 1 [.int (2 : Int32)] [] 68 dX8_who_65 rfl (lk_X8_62 rfl) (by omega) kd_88 rfl rfl rfl (Nat.le_of_ble_eq_true rfl) (sp_X8_error (by omega) c29 (fun h30 eh30 => ?_))
              replace H := H h30 eh30
              exact wp_reti dX8_who_68 rfl H
      · replace H := H.2 c7
        refine wp_aload_n 27 dX8_who_26 rfl rfl ?_
        refine wp_iconst (1 : Int32) 28 dX8_who_27 kiconst_1 rfl ?_
        have c31 := H.1; replace H := H.2
        refine wp_cV (d - 1) 1 [.int (1 : Int32)] [] 31 dX8_who_28 rfl (lk_X8_62 rfl) (by omega) kd_88 rfl rfl rfl (Nat.le_of_ble_eq_true rfl) (sp_X8_error (by omega) c31 (fun h32 eh32 => ?_))
        replace H := H h32 eh32
        exact wp_reti dX8_who_31 rfl H

theorem cg_X8_who {G : kG} {d : Nat} {Q : Int32 → kM → Prop}  {a1 : Int32} {a2 : Int32} {a3 : Int32} {h : kM} (hd : 10 ≤ d)  (H :
    (((kb (0 ≤ a1 ∧ a1 ≤ 3)) = 0 →
      (vp_in (1 : Int32) 7) ∧
      ∀ h3 : kM, h3 = kErr h 93 (1 : Int32) →
      Q (-1000000000 - (1 : Int32)) h3
    ) ∧ (¬ ((kb (0 ≤ a1 ∧ a1 ≤ 3)) = 0) →
      (((kb ((1 : Int32) ≤ a2 ∧ a2 ≤ (24 : Int32))) = 0 →
        (vp_in (1 : Int32) 7) ∧
        ∀ h6 : kM, h6 = kErr h 93 (1 : Int32) →
        Q (-1000000000 - (1 : Int32)) h6
      ) ∧ (¬ ((kb ((1 : Int32) ≤ a2 ∧ a2 ≤ (24 : Int32))) = 0) →
        ((¬ (kb ((0 : Int32) ≤ a3 ∧ a3 ≤ (2 : Int32))) = 0 →
          (((h 88 4) = 0 →
            (vp_in (2 : Int32) 7) ∧
            ∀ h10 : kM, h10 = kErr h 93 (2 : Int32) →
            Q (-1000000000 - (2 : Int32)) h10
          ) ∧ (¬ ((h 88 4) = 0) →
            (vp_in a1 4) ∧
            (((h 98 (a1).toNatClampNeg) = 0 →
              (vp_in (2 : Int32) 7) ∧
              ∀ h14 : kM, h14 = kErr h 93 (2 : Int32) →
              Q (-1000000000 - (2 : Int32)) h14
            ) ∧ (¬ ((h 98 (a1).toNatClampNeg) = 0) →
              (vp_in a1 4) ∧
              (((h 90 0) ≤ (h 99 (a1).toNatClampNeg) →
                (91 ≠ 89) ∧
                ∀ h18 : kM, h18 = kCp h 89 91 0 0 481 →
                (89 ≠ 90) ∧
                ∀ h20 : kM, h20 = kCp h18 90 89 0 0 481 →
                ∀ h21 : kM, h21 = kCp h20 89 92 0 0 147 →
                Cal G (d - 1) m_X8_go [.ref 88, .int a2] h21 (fun x22 h23 =>
                  Cal G (d - 1) m_X8_lieSo [.ref 88, .int a1] h23 (fun x24 h25 =>
                    ((x24 = 0 →
                      ∀ h27 : kM, h27 = kCp h25 92 89 0 0 147 →
                      at_X8_who_130 G d Q a1 a2 a3 (0 : Int32) (0 : Int32) (-1 : Int32) (0 : Int32) h27
                    ) ∧ (¬ (x24 = 0) →
                      ∀ h28 : kM, h28 = kCp h25 92 89 0 0 147 →
                      at_X8_who_130 G d Q a1 a2 a3 (1 : Int32) (0 : Int32) (-1 : Int32) (0 : Int32) h28
                    ))
                  )
                )
              ) ∧ (¬ ((h 90 0) ≤ (h 99 (a1).toNatClampNeg)) →
                (vp_in (2 : Int32) 7) ∧
                ∀ h30 : kM, h30 = kErr h 93 (2 : Int32) →
                Q (-1000000000 - (2 : Int32)) h30
              ))
            ))
          ))
        ) ∧ ((kb ((0 : Int32) ≤ a3 ∧ a3 ≤ (2 : Int32))) = 0 →
          (vp_in (1 : Int32) 7) ∧
          ∀ h32 : kM, h32 = kErr h 93 (1 : Int32) →
          Q (-1000000000 - (1 : Int32)) h32
        ))
      ))
    ))) : Cal G d m_X8_who [.ref 88, .int a1, .int a2, .int a3] h Q :=
  Cal.of [.ref 88, .int a1, .int a2, .int a3, .null, .null, .null, .null, .null, .null] (by decide +kernel) (Nat.le_of_ble_eq_true rfl) rfl (sg_X8_who_0 hd  H)

theorem sg_X8_who_130 {G : kG} {d : Nat} {Q : Int32 → kM → Prop}  {v1 : Int32} {v2 : Int32} {v3 : Int32} {v4 : Int32} {v5 : Int32} {v6 : Int32} {v7 : Int32} {h : kM} (hd : 10 ≤ d)  (H :
    ((((3 : Int32) * (h 89 0)) ≤ v7 →
      (89 ≠ 91) ∧
      ∀ h3 : kM, h3 = kCp h 91 89 0 0 481 →
      ((¬ v3 = (1 : Int32) →
        ((¬ v3 = 0 →
          Q v4 h3
        ) ∧ (v3 = 0 →
          Q v5 h3
        ))
      ) ∧ (v3 = (1 : Int32) →
        ((¬ v6 = (-1 : Int32) →
          ((¬ v3 = 0 →
            Q v6 h3
          ) ∧ (v3 = 0 →
            Q v5 h3
          ))
        ) ∧ (v6 = (-1 : Int32) →
          (vp_in (2 : Int32) 7) ∧
          ∀ h11 : kM, h11 = kErr h3 93 (2 : Int32) →
          Q (-1000000000 - (2 : Int32)) h11
        ))
      ))
    ) ∧ (¬ (((3 : Int32) * (h 89 0)) ≤ v7) →
      at_X8_who_149 G d Q v1 v2 v3 v4 v5 v6 v7 (0 : Int32) (0 : Int32) h
    ))) : at_X8_who_130 G d Q v1 v2 v3 v4 v5 v6 v7 h := by
  show Wp G d m_X8_who (kEo G d m_X8_who Q) 130 [.ref 88, .int v1, .int v2, .int v3, .int v4, .int v5, .int v6, .int v7, .null, .null] [] h
  refine wp_iload 132 dX8_who_130 rfl rfl ?_
  refine wp_iconst (3 : Int32) 133 dX8_who_132 kiconst_3 rfl ?_
  refine wp_aload_n 134 dX8_who_133 rfl rfl ?_
  refine wp_getR 1 89 137 dX8_who_134 rfl fl_X8_7 kd_88 rfl rfl rfl rfl ?_
  refine wp_iconst (0 : Int32) 138 dX8_who_137 kiconst_0 rfl ?_
  refine wp_iald 139 dX8_who_138 rfl kd_89 (by unfold vp_in; decide) ?_
  refine wp_imul 140 dX8_who_139 rfl ?_
  refine wp_icmp_ge 242 143 dX8_who_140 rfl rfl ⟨fun c1 => ?_, fun c1 => ?_⟩
  · replace H := H.1 c1
    refine wp_aload_n 243 dX8_who_242 rfl rfl ?_
    refine wp_getR 3 91 246 dX8_who_243 rfl fl_X8_16 kd_88 rfl rfl rfl rfl ?_
    refine wp_aload_n 247 dX8_who_246 rfl rfl ?_
    refine wp_getR 1 89 250 dX8_who_247 rfl fl_X8_7 kd_88 rfl rfl rfl rfl ?_
    have c2 := H.1; replace H := H.2
    refine wp_cS (d - 1) 2 [.ref 91, .ref 89] [] 253 dX8_who_250 rfl (lk_X8_236 rfl) (by omega) rfl rfl (Nat.le_of_ble_eq_true rfl) (sp_X8_carry (by omega) kd_91 kd_89 c2 (fun h3 eh3 => ?_))
    replace H := H h3 eh3
    refine wp_iload_n 254 dX8_who_253 rfl rfl ?_
    refine wp_iconst (1 : Int32) 255 dX8_who_254 kiconst_1 rfl ?_
    refine wp_icmp_ne 270 258 dX8_who_255 rfl rfl ⟨fun c4 => ?_, fun c4 => ?_⟩
    · replace H := H.1 c4
      refine wp_iload_n 271 dX8_who_270 rfl rfl ?_
      refine wp_if_ne 279 274 dX8_who_271 rfl rfl ⟨fun c5 => ?_, fun c5 => ?_⟩
      · replace H := H.1 c5
        refine wp_iload_n 280 dX8_who_279 rfl rfl ?_
        refine wp_iconst (1 : Int32) 281 dX8_who_280 kiconst_1 rfl ?_
        refine wp_icmp_ne 289 284 dX8_who_281 rfl rfl ⟨fun c6 => ?_, fun c6 => absurd c6 c4⟩
        refine wp_iload 291 dX8_who_289 rfl rfl ?_
        exact wp_reti dX8_who_291 rfl H
      · replace H := H.2 c5
        refine wp_iload 276 dX8_who_274 rfl rfl ?_
        refine wp_goto 291 dX8_who_276 rfl ?_
        exact wp_reti dX8_who_291 rfl H
    · replace H := H.2 c4
      refine wp_iload 260 dX8_who_258 rfl rfl ?_
      refine wp_iconst (-1 : Int32) 261 dX8_who_260 kiconst_m1 rfl ?_
      refine wp_icmp_ne 270 264 dX8_who_261 rfl rfl ⟨fun c7 => ?_, fun c7 => ?_⟩
      · replace H := H.1 c7
        refine wp_iload_n 271 dX8_who_270 rfl rfl ?_
        refine wp_if_ne 279 274 dX8_who_271 rfl rfl ⟨fun c8 => ?_, fun c8 => ?_⟩
        · replace H := H.1 c8
          refine wp_iload_n 280 dX8_who_279 rfl rfl ?_
          refine wp_iconst (1 : Int32) 281 dX8_who_280 kiconst_1 rfl ?_
          refine wp_icmp_ne 289 284 dX8_who_281 rfl rfl ⟨fun c9 => absurd c4 c9, fun c9 => ?_⟩
          refine wp_iload 286 dX8_who_284 rfl rfl ?_
          refine wp_goto 291 dX8_who_286 rfl ?_
          exact wp_reti dX8_who_291 rfl H
        · replace H := H.2 c8
          refine wp_iload 276 dX8_who_274 rfl rfl ?_
          refine wp_goto 291 dX8_who_276 rfl ?_
          exact wp_reti dX8_who_291 rfl H
      · replace H := H.2 c7
        refine wp_aload_n 265 dX8_who_264 rfl rfl ?_
        refine wp_iconst (2 : Int32) 266 dX8_who_265 kiconst_2 rfl ?_
        have c10 := H.1; replace H := H.2
        refine wp_cV (d - 1) 1 [.int (2 : Int32)] [] 269 dX8_who_266 rfl (lk_X8_62 rfl) (by omega) kd_88 rfl rfl rfl (Nat.le_of_ble_eq_true rfl) (sp_X8_error (by omega) c10 (fun h11 eh11 => ?_))
        replace H := H h11 eh11
        exact wp_reti dX8_who_269 rfl H
  · replace H := H.2 c1
    refine wp_iconst (0 : Int32) 144 dX8_who_143 kiconst_0 rfl ?_
    refine wp_istore 146 dX8_who_144 rfl (Nat.le_of_ble_eq_true rfl) rfl ?_
    refine wp_iconst (0 : Int32) 147 dX8_who_146 kiconst_0 rfl ?_
    refine wp_istore 149 dX8_who_147 rfl (Nat.le_of_ble_eq_true rfl) rfl ?_
    exact H

theorem sg_X8_who_149 {G : kG} {d : Nat} {Q : Int32 → kM → Prop}  {v1 : Int32} {v2 : Int32} {v3 : Int32} {v4 : Int32} {v5 : Int32} {v6 : Int32} {v7 : Int32} {v8 : Int32} {v9 : Int32} {h : kM} (hd : 10 ≤ d)  (H :
    ((v2 ≤ v9 →
      ((v8 ≤ 0 →
        at_X8_who_130 G d Q v1 v2 v3 (v4 + v8) (v5 + (0 : Int32)) v6 (v7 + (1 : Int32)) h
      ) ∧ (¬ (v8 ≤ 0) →
        ((¬ v6 = (-1 : Int32) →
          at_X8_who_130 G d Q v1 v2 v3 (v4 + v8) (v5 + (1 : Int32)) v6 (v7 + (1 : Int32)) h
        ) ∧ (v6 = (-1 : Int32) →
          at_X8_who_130 G d Q v1 v2 v3 (v4 + v8) (v5 + (1 : Int32)) (((10 : Int32) * (v7 / (3 : Int32))) + (v7 - v7 / (3 : Int32) * (3 : Int32))) (v7 + (1 : Int32)) h
        ))
      ))
    ) ∧ (¬ (v2 ≤ v9) →
      Cal G (d - 1) m_X8_lieBy [.ref 88, .int v1, .int v2, .int v7, .int v9] h (fun x6 h7 =>
        ((x6 = 0 →
          at_X8_who_149 G d Q v1 v2 v3 v4 v5 v6 v7 (v8 + (0 : Int32)) (v9 + (1 : Int32)) h7
        ) ∧ (¬ (x6 = 0) →
          at_X8_who_149 G d Q v1 v2 v3 v4 v5 v6 v7 (v8 + (1 : Int32)) (v9 + (1 : Int32)) h7
        ))
      )
    ))) : at_X8_who_149 G d Q v1 v2 v3 v4 v5 v6 v7 v8 v9 h := by
  show Wp G d m_X8_who (kEo G d m_X8_who Q) 149 [.ref 88, .int v1, .int v2, .int v3, .int v4, .int v5, .int v6, .int v7, .int v8, .int v9] [] h
  refine wp_iload 151 dX8_who_149 rfl rfl ?_
  refine wp_iload_n 152 dX8_who_151 rfl rfl ?_
  refine wp_icmp_ge 184 155 dX8_who_152 rfl rfl ⟨fun c1 => ?_, fun c1 => ?_⟩
  · replace H := H.1 c1
    refine wp_iload 186 dX8_who_184 rfl rfl ?_
    refine wp_iload 188 dX8_who_186 rfl rfl ?_
    refine wp_iadd 189 dX8_who_188 rfl ?_
    refine wp_istore 191 dX8_who_189 rfl (Nat.le_of_ble_eq_true rfl) rfl ?_
    refine wp_iload 193 dX8_who_191 rfl rfl ?_
    refine wp_iload 195 dX8_who_193 rfl rfl ?_
    refine wp_if_le 202 198 dX8_who_195 rfl rfl ⟨fun c2 => ?_, fun c2 => ?_⟩
    · replace H := H.1 c2
      refine wp_iconst (0 : Int32) 203 dX8_who_202 kiconst_0 rfl ?_
      refine wp_iadd 204 dX8_who_203 rfl ?_
      refine wp_istore 206 dX8_who_204 rfl (Nat.le_of_ble_eq_true rfl) rfl ?_
      refine wp_iload 208 dX8_who_206 rfl rfl ?_
      refine wp_if_le 232 211 dX8_who_208 rfl rfl ⟨fun c3 => ?_, fun c3 => absurd c2 c3⟩
      refine wp_iload 234 dX8_who_232 rfl rfl ?_
      refine wp_istore 236 dX8_who_234 rfl (Nat.le_of_ble_eq_true rfl) rfl ?_
      refine wp_iinc (1 : Int32) 239 dX8_who_236 rfl rfl kiconst_1 (Nat.le_of_ble_eq_true rfl) rfl ?_
      refine wp_goto 130 dX8_who_239 rfl ?_
      refine wp_drop 8 ?_
      refine wp_drop 9 ?_
      exact H
    · replace H := H.2 c2
      refine wp_iconst (1 : Int32) 199 dX8_who_198 kiconst_1 rfl ?_
      refine wp_goto 203 dX8_who_199 rfl ?_
      refine wp_iadd 204 dX8_who_203 rfl ?_
      refine wp_istore 206 dX8_who_204 rfl (Nat.le_of_ble_eq_true rfl) rfl ?_
      refine wp_iload 208 dX8_who_206 rfl rfl ?_
      refine wp_if_le 232 211 dX8_who_208 rfl rfl ⟨fun c4 => absurd c4 c2, fun c4 => ?_⟩
      refine wp_iload 213 dX8_who_211 rfl rfl ?_
      refine wp_iconst (-1 : Int32) 214 dX8_who_213 kiconst_m1 rfl ?_
      refine wp_icmp_ne 232 217 dX8_who_214 rfl rfl ⟨fun c5 => ?_, fun c5 => ?_⟩
      · replace H := H.1 c5
        refine wp_iload 234 dX8_who_232 rfl rfl ?_
        refine wp_istore 236 dX8_who_234 rfl (Nat.le_of_ble_eq_true rfl) rfl ?_
        refine wp_iinc (1 : Int32) 239 dX8_who_236 rfl rfl kiconst_1 (Nat.le_of_ble_eq_true rfl) rfl ?_
        refine wp_goto 130 dX8_who_239 rfl ?_
        refine wp_drop 8 ?_
        refine wp_drop 9 ?_
        exact H
      · replace H := H.2 c5
        refine wp_bipush (10 : Int32) 219 dX8_who_217 kbipush_10 rfl ?_
        refine wp_iload 221 dX8_who_219 rfl rfl ?_
        refine wp_iconst (3 : Int32) 222 dX8_who_221 kiconst_3 rfl ?_
        refine wp_idiv 223 dX8_who_222 (by decide) rfl ?_
        refine wp_imul 224 dX8_who_223 rfl ?_
        refine wp_iload 226 dX8_who_224 rfl rfl ?_
        refine wp_iconst (3 : Int32) 227 dX8_who_226 kiconst_3 rfl ?_
        refine wp_irem 228 dX8_who_227 (by decide) rfl ?_
        refine wp_iadd 229 dX8_who_228 rfl ?_
        refine wp_goto 234 dX8_who_229 rfl ?_
        refine wp_istore 236 dX8_who_234 rfl (Nat.le_of_ble_eq_true rfl) rfl ?_
        refine wp_iinc (1 : Int32) 239 dX8_who_236 rfl rfl kiconst_1 (Nat.le_of_ble_eq_true rfl) rfl ?_
        refine wp_goto 130 dX8_who_239 rfl ?_
        refine wp_drop 8 ?_
        refine wp_drop 9 ?_
        exact H
  · replace H := H.2 c1
    refine wp_iload 157 dX8_who_155 rfl rfl ?_
    refine wp_aload_n 158 dX8_who_157 rfl rfl ?_
    refine wp_iload_n 159 dX8_who_158 rfl rfl ?_
    refine wp_iload_n 160 dX8_who_159 rfl rfl ?_
    refine wp_iload 162 dX8_who_160 rfl rfl ?_
    refine wp_iload 164 dX8_who_162 rfl rfl ?_
    refine wp_cV (d - 1) 4 [.int v1, .int v2, .int v7, .int v9] [.int v8] 167 dX8_who_164 rfl (lk_X8_240 rfl) (by omega) kd_88 rfl rfl rfl (Nat.le_of_ble_eq_true rfl) (H.mono (fun x6 h7 H => ?_))
    refine wp_if_eq 174 170 dX8_who_167 rfl rfl ⟨fun c8 => ?_, fun c8 => ?_⟩
    · replace H := H.1 c8
      refine wp_iconst (0 : Int32) 175 dX8_who_174 kiconst_0 rfl ?_
      refine wp_iadd 176 dX8_who_175 rfl ?_
      refine wp_istore 178 dX8_who_176 rfl (Nat.le_of_ble_eq_true rfl) rfl ?_
      refine wp_iinc (1 : Int32) 181 dX8_who_178 rfl rfl kiconst_1 (Nat.le_of_ble_eq_true rfl) rfl ?_
      refine wp_goto 149 dX8_who_181 rfl ?_
      exact H
    · replace H := H.2 c8
      refine wp_iconst (1 : Int32) 171 dX8_who_170 kiconst_1 rfl ?_
      refine wp_goto 175 dX8_who_171 rfl ?_
      refine wp_iadd 176 dX8_who_175 rfl ?_
      refine wp_istore 178 dX8_who_176 rfl (Nat.le_of_ble_eq_true rfl) rfl ?_
      refine wp_iinc (1 : Int32) 181 dX8_who_178 rfl rfl kiconst_1 (Nat.le_of_ble_eq_true rfl) rfl ?_
      refine wp_goto 149 dX8_who_181 rfl ?_
      exact H

theorem sg_X7_who_0 {G : kG} {d : Nat} {Q : Int32 → kM → Prop}  {a1 : Int32} {a2 : Int32} {a3 : Int32} {h : kM} (hd : 8 ≤ d)  (H :
    (((kb (0 ≤ a1 ∧ a1 < (4 : Int32))) = 0 →
      (vp_in (1 : Int32) 7) ∧
      ∀ h3 : kM, h3 = kErr h 87 (1 : Int32) →
      Q (-1000000000 - (1 : Int32)) h3
    ) ∧ (¬ ((kb (0 ≤ a1 ∧ a1 < (4 : Int32))) = 0) →
      (((kb ((1 : Int32) ≤ a2 ∧ a2 ≤ (24 : Int32))) = 0 →
        (vp_in (1 : Int32) 7) ∧
        ∀ h6 : kM, h6 = kErr h 87 (1 : Int32) →
        Q (-1000000000 - (1 : Int32)) h6
      ) ∧ (¬ ((kb ((1 : Int32) ≤ a2 ∧ a2 ≤ (24 : Int32))) = 0) →
        ((¬ (kb (0 ≤ a3 ∧ a3 < (3 : Int32))) = 0 →
          (vp_in a1 4) ∧
          ∀ q9 : Nat, q9 = 79 + 2 * (a1).toNatClampNeg → kSht q9 →
          (((h 0 2) = 0 →
            (vp_in (2 : Int32) 7) ∧
            ∀ h12 : kM, h12 = kErr h 87 (2 : Int32) →
            Q (-1000000000 - (2 : Int32)) h12
          ) ∧ (¬ ((h 0 2) = 0) →
            (((kb (¬ h q9 1 = 0)) = 0 →
              (vp_in (2 : Int32) 7) ∧
              ∀ h15 : kM, h15 = kErr h 87 (2 : Int32) →
              Q (-1000000000 - (2 : Int32)) h15
            ) ∧ (¬ ((kb (¬ h q9 1 = 0)) = 0) →
              (((h 18 12) ≤ (h q9 2) →
                Cal G (d - 1) m_X0_findWho [.ref 40, .ref 18, .ref (q9 + 1), .int a2] h (fun x17 h18 =>
                  ((¬ a3 = 0 →
                    ((¬ a3 = (2 : Int32) →
                      ((¬ (h18 40 8) = 0 →
                        Q (10 * ((h18 40 9) / 3) + iR (h18 40 9) 3) h18
                      ) ∧ ((h18 40 8) = 0 →
                        (vp_in (2 : Int32) 7) ∧
                        ∀ h23 : kM, h23 = kErr h18 87 (2 : Int32) →
                        Q (-1000000000 - (2 : Int32)) h23
                      ))
                    ) ∧ (a3 = (2 : Int32) →
                      Q (h18 40 10) h18
                    ))
                  ) ∧ (a3 = 0 →
                    Q (h18 40 8) h18
                  ))
                )
              ) ∧ (¬ ((h 18 12) ≤ (h q9 2)) →
                (vp_in (2 : Int32) 7) ∧
                ∀ h25 : kM, h25 = kErr h 87 (2 : Int32) →
                Q (-1000000000 - (2 : Int32)) h25
              ))
            ))
          ))
        ) ∧ ((kb (0 ≤ a3 ∧ a3 < (3 : Int32))) = 0 →
          (vp_in (1 : Int32) 7) ∧
          ∀ h27 : kM, h27 = kErr h 87 (1 : Int32) →
          Q (-1000000000 - (1 : Int32)) h27
        ))
      ))
    ))) : Wp G d m_X7_who (kEo G d m_X7_who Q) 0 [.ref 0, .int a1, .int a2, .int a3, .null] [] h := by
  refine wp_iload_n 1 dX7_who_0 rfl rfl ?_
  refine wp_iconst (4 : Int32) 2 dX7_who_1 kiconst_4 rfl ?_
  refine wp_cS (d - 1) 2 [.int a1, .int (4 : Int32)] [] 5 dX7_who_2 rfl (lk_X7_58 rfl) (by omega) rfl rfl (Nat.le_of_ble_eq_true rfl) (sp_X7_within (by omega)  ?_)
  refine wp_if_eq 26 8 dX7_who_5 rfl rfl ⟨fun c1 => ?_, fun c1 => ?_⟩
  · replace H := H.1 c1
    refine wp_aload_n 27 dX7_who_26 rfl rfl ?_
    refine wp_iconst (1 : Int32) 28 dX7_who_27 kiconst_1 rfl ?_
    have c2 := H.1; replace H := H.2
    refine wp_cV (d - 1) 1 [.int (1 : Int32)] [] 31 dX7_who_28 rfl (lk_X7_62 rfl) (by omega) kd_0 rfl rfl rfl (Nat.le_of_ble_eq_true rfl) (sp_X7_error (by omega) c2 (fun h3 eh3 => ?_))
    replace H := H h3 eh3
    exact wp_reti dX7_who_31 rfl H
  · replace H := H.2 c1
    refine wp_iload_n 9 dX7_who_8 rfl rfl ?_
    refine wp_iconst (1 : Int32) 10 dX7_who_9 kiconst_1 rfl ?_
    refine wp_bipush (24 : Int32) 12 dX7_who_10 kbipush_24 rfl ?_
    refine wp_cS (d - 1) 3 [.int a2, .int (1 : Int32), .int (24 : Int32)] [] 15 dX7_who_12 rfl (lk_X7_69 rfl) (by omega) rfl rfl (Nat.le_of_ble_eq_true rfl) (sp_X7_between (by omega)  ?_)
    refine wp_if_eq 26 18 dX7_who_15 rfl rfl ⟨fun c4 => ?_, fun c4 => ?_⟩
    · replace H := H.1 c4
      refine wp_aload_n 27 dX7_who_26 rfl rfl ?_
      refine wp_iconst (1 : Int32) 28 dX7_who_27 kiconst_1 rfl ?_
      have c5 := H.1; replace H := H.2
      refine wp_cV (d - 1) 1 [.int (1 : Int32)] [] 31 dX7_who_28 rfl (lk_X7_62 rfl) (by omega) kd_0 rfl rfl rfl (Nat.le_of_ble_eq_true rfl) (sp_X7_error (by omega) c5 (fun h6 eh6 => ?_))
      replace H := H h6 eh6
      exact wp_reti dX7_who_31 rfl H
    · replace H := H.2 c4
      refine wp_iload_n 19 dX7_who_18 rfl rfl ?_
      refine wp_iconst (3 : Int32) 20 dX7_who_19 kiconst_3 rfl ?_
      refine wp_cS (d - 1) 2 [.int a3, .int (3 : Int32)] [] 23 dX7_who_20 rfl (lk_X7_58 rfl) (by omega) rfl rfl (Nat.le_of_ble_eq_true rfl) (sp_X7_within (by omega)  ?_)
      refine wp_if_ne 32 26 dX7_who_23 rfl rfl ⟨fun c7 => ?_, fun c7 => ?_⟩
      · replace H := H.1 c7
        refine wp_aload_n 33 dX7_who_32 rfl rfl ?_
        refine wp_getR 78 78 36 dX7_who_33 rfl fl_X7_49 kd_0 rfl rfl rfl rfl ?_
        refine wp_iload_n 37 dX7_who_36 rfl rfl ?_
        have c8 := H.1; replace H := H.2
        refine wp_sheet 38 dX7_who_37 rfl c8 (fun q9 eq9 k_q9 => ?_)
        replace H := H q9 eq9 k_q9
        refine wp_astore 40 dX7_who_38 rfl (Nat.le_of_ble_eq_true rfl) rfl ?_
        refine wp_aload_n 41 dX7_who_40 rfl rfl ?_
        refine wp_getI 44 dX7_who_41 rfl fl_X7_218 kd_0 rfl ?_
        refine wp_if_eq 70 47 dX7_who_44 rfl rfl ⟨fun c10 => ?_, fun c10 => ?_⟩
        · replace H := H.1 c10
          refine wp_aload_n 71 dX7_who_70 rfl rfl ?_
          refine wp_iconst (2 : Int32) 72 dX7_who_71 kiconst_2 rfl ?_
          have c11 := H.1; replace H := H.2
          refine wp_cV (d - 1) 1 [.int (2 : Int32)] [] 75 dX7_who_72 rfl (lk_X7_62 rfl) (by omega) kd_0 rfl rfl rfl (Nat.le_of_ble_eq_true rfl) (sp_X7_error (by omega) c11 (fun h12 eh12 => ?_))
          replace H := H h12 eh12
          exact wp_reti dX7_who_75 rfl H
        · replace H := H.2 c10
          refine wp_aload 49 dX7_who_47 rfl rfl ?_
          refine wp_cV (d - 1) 0 [] [] 52 dX7_who_49 rfl (lk_X7_221 rfl) (by omega) (kSht_0 k_q9) rfl rfl rfl (Nat.le_of_ble_eq_true rfl) (sp_X4_isThere (by omega) k_q9 ?_)
          refine wp_if_eq 70 55 dX7_who_52 rfl rfl ⟨fun c13 => ?_, fun c13 => ?_⟩
          · replace H := H.1 c13
            refine wp_aload_n 71 dX7_who_70 rfl rfl ?_
            refine wp_iconst (2 : Int32) 72 dX7_who_71 kiconst_2 rfl ?_
            have c14 := H.1; replace H := H.2
            refine wp_cV (d - 1) 1 [.int (2 : Int32)] [] 75 dX7_who_72 rfl (lk_X7_62 rfl) (by omega) kd_0 rfl rfl rfl (Nat.le_of_ble_eq_true rfl) (sp_X7_error (by omega) c14 (fun h15 eh15 => ?_))
            replace H := H h15 eh15
            exact wp_reti dX7_who_75 rfl H
          · replace H := H.2 c13
            refine wp_aload 57 dX7_who_55 rfl rfl ?_
            refine wp_getI 60 dX7_who_57 rfl fl_X7_222 (kSht_0 k_q9) rfl ?_
            refine wp_aload_n 61 dX7_who_60 rfl rfl ?_
            refine wp_getR 18 18 64 dX7_who_61 rfl fl_X7_16 kd_0 rfl rfl rfl rfl ?_
            refine wp_getI 67 dX7_who_64 rfl fl_X7_76 kd_18 rfl ?_
            refine wp_icmp_ge 76 70 dX7_who_67 rfl rfl ⟨fun c16 => ?_, fun c16 => ?_⟩
            · replace H := H.1 c16
              refine wp_aload_n 77 dX7_who_76 rfl rfl ?_
              refine wp_getR 40 40 80 dX7_who_77 rfl fl_X7_29 kd_0 rfl rfl rfl rfl ?_
              refine wp_aload_n 81 dX7_who_80 rfl rfl ?_
              refine wp_getR 18 18 84 dX7_who_81 rfl fl_X7_16 kd_0 rfl rfl rfl rfl ?_
              refine wp_aload 86 dX7_who_84 rfl rfl ?_
              refine wp_getR 1 (q9 + 1) 89 dX7_who_86 rfl fl_X7_225 (kSht_0 k_q9) rfl rfl rfl rfl ?_
              refine wp_iload_n 90 dX7_who_89 rfl rfl ?_
              refine wp_cV (d - 1) 3 [.ref 18, .ref (q9 + 1), .int a2] [] 93 dX7_who_90 rfl (lk_X7_226 rfl) (by omega) kd_40 rfl rfl rfl (Nat.le_of_ble_eq_true rfl) (H.mono (fun x17 h18 H => ?_))
              refine wp_iload_n 94 dX7_who_93 rfl rfl ?_
              refine wp_if_ne 105 97 dX7_who_94 rfl rfl ⟨fun c19 => ?_, fun c19 => ?_⟩
              · replace H := H.1 c19
                refine wp_iload_n 106 dX7_who_105 rfl rfl ?_
                refine wp_iconst (2 : Int32) 107 dX7_who_106 kiconst_2 rfl ?_
                refine wp_icmp_ne 118 110 dX7_who_107 rfl rfl ⟨fun c20 => ?_, fun c20 => ?_⟩
                · replace H := H.1 c20
                  refine wp_aload_n 119 dX7_who_118 rfl rfl ?_
                  refine wp_getR 40 40 122 dX7_who_119 rfl fl_X7_29 kd_0 rfl rfl rfl rfl ?_
                  refine wp_getI 125 dX7_who_122 rfl fl_X7_230 kd_40 rfl ?_
                  refine wp_if_ne 136 128 dX7_who_125 rfl rfl ⟨fun c21 => ?_, fun c21 => ?_⟩
                  · replace H := H.1 c21
                    refine wp_aload_n 137 dX7_who_136 rfl rfl ?_
                    refine wp_getR 40 40 140 dX7_who_137 rfl fl_X7_29 kd_0 rfl rfl rfl rfl ?_
                    refine wp_getI 143 dX7_who_140 rfl fl_X7_236 kd_40 rfl ?_
                    refine wp_cS (d - 1) 1 [.int (h18 40 9)] [] 146 dX7_who_143 rfl (lk_X7_212 rfl) (by omega) rfl rfl (Nat.le_of_ble_eq_true rfl) (sp_X7_namedKnot (by omega)  ?_)
                    exact wp_reti dX7_who_146 rfl H
                  · replace H := H.2 c21
                    refine wp_aload_n 129 dX7_who_128 rfl rfl ?_
                    refine wp_iconst (2 : Int32) 130 dX7_who_129 kiconst_2 rfl ?_
                    have c22 := H.1; replace H := H.2
                    refine wp_cV (d - 1) 1 [.int (2 : Int32)] [] 133 dX7_who_130 rfl (lk_X7_62 rfl) (by omega) kd_0 rfl rfl rfl (Nat.le_of_ble_eq_true rfl) (sp_X7_error (by omega) c22 (fun h23 eh23 => ?_))
                    replace H := H h23 eh23
                    refine wp_goto 146 dX7_who_133 rfl ?_
                    exact wp_reti dX7_who_146 rfl H
                · replace H := H.2 c20
                  refine wp_aload_n 111 dX7_who_110 rfl rfl ?_
                  refine wp_getR 40 40 114 dX7_who_111 rfl fl_X7_29 kd_0 rfl rfl rfl rfl ?_
                  refine wp_getI 117 dX7_who_114 rfl fl_X7_233 kd_40 rfl ?_
                  exact wp_reti dX7_who_117 rfl H
              · replace H := H.2 c19
                refine wp_aload_n 98 dX7_who_97 rfl rfl ?_
                refine wp_getR 40 40 101 dX7_who_98 rfl fl_X7_29 kd_0 rfl rfl rfl rfl ?_
                refine wp_getI 104 dX7_who_101 rfl fl_X7_230 kd_40 rfl ?_
                exact wp_reti dX7_who_104 rfl H
            · replace H := H.2 c16
              refine wp_aload_n 71 dX7_who_70 rfl rfl ?_
              refine wp_iconst (2 : Int32) 72 dX7_who_71 kiconst_2 rfl ?_
              have c24 := H.1; replace H := H.2
              refine wp_cV (d - 1) 1 [.int (2 : Int32)] [] 75 dX7_who_72 rfl (lk_X7_62 rfl) (by omega) kd_0 rfl rfl rfl (Nat.le_of_ble_eq_true rfl) (sp_X7_error (by omega) c24 (fun h25 eh25 => ?_))
              replace H := H h25 eh25
              exact wp_reti dX7_who_75 rfl H
      · replace H := H.2 c7
        refine wp_aload_n 27 dX7_who_26 rfl rfl ?_
        refine wp_iconst (1 : Int32) 28 dX7_who_27 kiconst_1 rfl ?_
        have c26 := H.1; replace H := H.2
        refine wp_cV (d - 1) 1 [.int (1 : Int32)] [] 31 dX7_who_28 rfl (lk_X7_62 rfl) (by omega) kd_0 rfl rfl rfl (Nat.le_of_ble_eq_true rfl) (sp_X7_error (by omega) c26 (fun h27 eh27 => ?_))
        replace H := H h27 eh27
        exact wp_reti dX7_who_31 rfl H

theorem cg_X7_who {G : kG} {d : Nat} {Q : Int32 → kM → Prop}  {a1 : Int32} {a2 : Int32} {a3 : Int32} {h : kM} (hd : 8 ≤ d)  (H :
    (((kb (0 ≤ a1 ∧ a1 < (4 : Int32))) = 0 →
      (vp_in (1 : Int32) 7) ∧
      ∀ h3 : kM, h3 = kErr h 87 (1 : Int32) →
      Q (-1000000000 - (1 : Int32)) h3
    ) ∧ (¬ ((kb (0 ≤ a1 ∧ a1 < (4 : Int32))) = 0) →
      (((kb ((1 : Int32) ≤ a2 ∧ a2 ≤ (24 : Int32))) = 0 →
        (vp_in (1 : Int32) 7) ∧
        ∀ h6 : kM, h6 = kErr h 87 (1 : Int32) →
        Q (-1000000000 - (1 : Int32)) h6
      ) ∧ (¬ ((kb ((1 : Int32) ≤ a2 ∧ a2 ≤ (24 : Int32))) = 0) →
        ((¬ (kb (0 ≤ a3 ∧ a3 < (3 : Int32))) = 0 →
          (vp_in a1 4) ∧
          ∀ q9 : Nat, q9 = 79 + 2 * (a1).toNatClampNeg → kSht q9 →
          (((h 0 2) = 0 →
            (vp_in (2 : Int32) 7) ∧
            ∀ h12 : kM, h12 = kErr h 87 (2 : Int32) →
            Q (-1000000000 - (2 : Int32)) h12
          ) ∧ (¬ ((h 0 2) = 0) →
            (((kb (¬ h q9 1 = 0)) = 0 →
              (vp_in (2 : Int32) 7) ∧
              ∀ h15 : kM, h15 = kErr h 87 (2 : Int32) →
              Q (-1000000000 - (2 : Int32)) h15
            ) ∧ (¬ ((kb (¬ h q9 1 = 0)) = 0) →
              (((h 18 12) ≤ (h q9 2) →
                Cal G (d - 1) m_X0_findWho [.ref 40, .ref 18, .ref (q9 + 1), .int a2] h (fun x17 h18 =>
                  ((¬ a3 = 0 →
                    ((¬ a3 = (2 : Int32) →
                      ((¬ (h18 40 8) = 0 →
                        Q (10 * ((h18 40 9) / 3) + iR (h18 40 9) 3) h18
                      ) ∧ ((h18 40 8) = 0 →
                        (vp_in (2 : Int32) 7) ∧
                        ∀ h23 : kM, h23 = kErr h18 87 (2 : Int32) →
                        Q (-1000000000 - (2 : Int32)) h23
                      ))
                    ) ∧ (a3 = (2 : Int32) →
                      Q (h18 40 10) h18
                    ))
                  ) ∧ (a3 = 0 →
                    Q (h18 40 8) h18
                  ))
                )
              ) ∧ (¬ ((h 18 12) ≤ (h q9 2)) →
                (vp_in (2 : Int32) 7) ∧
                ∀ h25 : kM, h25 = kErr h 87 (2 : Int32) →
                Q (-1000000000 - (2 : Int32)) h25
              ))
            ))
          ))
        ) ∧ ((kb (0 ≤ a3 ∧ a3 < (3 : Int32))) = 0 →
          (vp_in (1 : Int32) 7) ∧
          ∀ h27 : kM, h27 = kErr h 87 (1 : Int32) →
          Q (-1000000000 - (1 : Int32)) h27
        ))
      ))
    ))) : Cal G d m_X7_who [.ref 0, .int a1, .int a2, .int a3] h Q :=
  Cal.of [.ref 0, .int a1, .int a2, .int a3, .null] (by decide +kernel) (Nat.le_of_ble_eq_true rfl) rfl (sg_X7_who_0 hd  H)

theorem lp_m149 (hd : 10 ≤ d) {v : kM} {n H f w s N k : Nat} {Y : Nat → Int32} {a3 v4 v5 v6 : Int32} (hS : kSRn v (h 89) n H f w) (hs : s < 4) (hN : N ≤ 24) (hH : H ≤ 9999) (hk : k < 3 * n) (h92 : ∀ j, j < 147 → h 92 j = h 89 j) (hY : ∀ p, p < n → h 100 (24 * s + p) = Y p) (kk : ∀ h1, h1 89 = h 89 → (∀ a, a ≠ 89 → a ≠ 95 → a ≠ 96 → h1 a = h a) → ((kRw Y v N n k ≤ 0 → at_X8_who_130 G d Q (nI s) (nI N) a3 (v4 + kRw Y v N n k) (v5 + 0) v6 (nI (k + 1)) h1) ∧ (¬ kRw Y v N n k ≤ 0 → ((¬ v6 = -1 → at_X8_who_130 G d Q (nI s) (nI N) a3 (v4 + kRw Y v N n k) (v5 + 1) v6 (nI (k + 1)) h1) ∧ (v6 = -1 → at_X8_who_130 G d Q (nI s) (nI N) a3 (v4 + kRw Y v N n k) (v5 + 1) (kNk (nI k)) (nI (k + 1)) h1))))) : ∀ (m t : Nat) (h1 : kM), t + m = N → h1 89 = h 89 → (∀ a, a ≠ 89 → a ≠ 95 → a ≠ 96 → h1 a = h a) → at_X8_who_149 G d Q (nI s) (nI N) a3 v4 v5 v6 (nI k) (kSum (kRt Y v N n k) 0 t) (nI t) h1 := by
  intro m
  induction m with
  | zero =>
    intro t h1 htN hg ho
    have ht2 : t = N := by omega
    subst ht2
    refine sg_X8_who_149 hd ⟨fun _ => ?_, fun z => absurd (nI_le (Nat.le_refl _) (by omega)) z⟩
    rw [nI_1]
    exact kk h1 hg ho
  | succ m ih =>
    intro t h1 htN hg ho
    refine sg_X8_who_149 hd ⟨fun z => absurd z (ltn (nI_lt (by omega) (by omega))), fun _ => ?_⟩
    refine sp_X8_lieBy (Y := Y) (d := d - 1) (by omega) (hS.congr2 hg) hs hN hH hk (t := t) (by omega) (fun j hj => by rw [ho 92 (by decide) (by decide) (by decide), hg]; exact h92 j hj) (fun p hp => by rw [ho 100 (by decide) (by decide) (by decide)]; exact hY p hp) (fun h2 g2 o2 => ?_)
    have r : ∀ y, y = kRt Y v N n k t → at_X8_who_149 G d Q (nI s) (nI N) a3 v4 v5 v6 (nI k) (kSum (kRt Y v N n k) 0 t + y) (nI (t + 1)) h2 := fun y hy => by
      rw [hy]
      exact ih (t + 1) h2 (by omega) (by rw [g2, hg]) (fun a z1 z2 z3 => by rw [o2 a z1 z2 z3, ho a z1 z2 z3])
    have r01 : kRt Y v N n k t = 0 ∨ kRt Y v N n k t = 1 := by
      unfold kRt
      by_cases c : kMq v k t
      · rw [if_pos c]
        exact kLy_01 n
      · rw [if_neg c]
        exact Or.inl rfl
    rw [nI_1]
    exact ⟨fun z => r 0 z.symm, fun z => r 1 (r01.resolve_left z).symm⟩
theorem lp_m130 (hd : 10 ≤ d) {v : kM} {n H f w s N : Nat} {Y : Nat → Int32} {a3 : Int32} (hS : kSRn v (h 89) n H f w) (hs : s < 4) (hN : N ≤ 24) (hH : H ≤ 9999) (h92 : ∀ j, j < 147 → h 92 j = h 89 j) (hY : ∀ p, p < n → h 100 (24 * s + p) = Y p) (kk : ∀ h1, h1 89 = h 89 → (∀ a, a ≠ 89 → a ≠ 95 → a ≠ 96 → h1 a = h a) → at_X8_who_130 G d Q (nI s) (nI N) a3 (kWf Y v N n (3 * n)).1 (nI (kWf Y v N n (3 * n)).2.1) (kFi (kWf Y v N n (3 * n))) (nI (3 * n)) h1) : ∀ (m k : Nat) (h1 : kM), k + m = 3 * n → h1 89 = h 89 → (∀ a, a ≠ 89 → a ≠ 95 → a ≠ 96 → h1 a = h a) → at_X8_who_130 G d Q (nI s) (nI N) a3 (kWf Y v N n k).1 (nI (kWf Y v N n k).2.1) (kFi (kWf Y v N n k)) (nI k) h1 := by
  have hn := hS.1.1
  intro m
  induction m with
  | zero =>
    intro k h1 hk hg ho
    have hk2 : k = 3 * n := by omega
    subst hk2
    exact kk h1 hg ho
  | succ m ih =>
    intro k h1 hk hg ho
    have e0 : (3 : Int32) * h1 89 0 = nI (3 * n) := by rw [hg, hS.1.2.2]; exact pk_mul 3 n
    refine sg_X8_who_130 hd ⟨fun z => absurd z (by rw [e0]; exact ltn (nI_lt (by omega) (by omega))), fun _ => ?_⟩
    refine lp_m149 (h := h) hd hS hs hN hH (k := k) (by omega) h92 hY (fun h2 g2 o2 => ?_) N 0 h1 (by omega) hg ho
    have r := ih (k + 1) h2 (by omega) g2 o2
    refine ⟨fun hl => ?_, fun hl => ⟨fun z => ?_, fun z => ?_⟩⟩
    · rw [kWf_l hl] at r
      rw [Int32.add_zero]
      exact r
    · have z' : ¬ (kWf Y v N n k).2.1 = 0 := fun e => z ((kFi_0 (by omega)).mpr e)
      rw [kWf_g hl, if_neg z'] at r
      rw [nI_1]
      have ef : kFi ((kWf Y v N n k).1 + kRw Y v N n k, (kWf Y v N n k).2.1 + 1, (kWf Y v N n k).2.2) = kFi (kWf Y v N n k) := by
        unfold kFi
        rw [if_neg z']
        exact if_neg (Nat.succ_ne_zero _)
      rw [ef] at r
      exact r
    · have z' : (kWf Y v N n k).2.1 = 0 := (kFi_0 (by omega)).mp z
      rw [kWf_g hl, if_pos z'] at r
      rw [nI_1]
      have ef : kFi ((kWf Y v N n k).1 + kRw Y v N n k, (kWf Y v N n k).2.1 + 1, nI k) = kNk (nI k) := if_neg (Nat.succ_ne_zero _)
      rw [ef] at r
      exact r
/-- what who answers -/
def kWv (F : Int32 × Nat × Int32) (a3 : Int32) : Int32 := if a3 = 0 then nI F.2.1 else if a3 = 1 then kNk F.2.2 else F.1
theorem mo_who (hd : 10 ≤ d) {v : kM} {n H f w s N L : Nat} {Y : Nat → Int32} {a3 : Int32} (hS : kSRn v (h 90) n H f w) (hs : s < 4) (hN1 : 1 ≤ N) (hN : N ≤ 24) (hH : H ≤ 9999) (hv : 0 ≤ a3 ∧ a3 < 3) (hi : ¬ h 88 4 = 0) (hb : ¬ h 98 s = 0) (hL : h 99 s = nI L) (hL24 : L ≤ 24) (hnL : n ≤ L) (hY : ∀ p, p < n → h 100 (24 * s + p) = Y p) (k1 : a3 = 1 → (kWf Y v N n (3 * n)).2.1 = 0 → ∀ h2, (∀ a, a ≠ 91 → a ≠ 92 → a ≠ 95 → a ≠ 96 → h2 a = h a) → ∀ h5, h5 = kErr h2 93 2 → Q (-1000000000 - 2) h5) (k2 : ¬ (a3 = 1 ∧ (kWf Y v N n (3 * n)).2.1 = 0) → ∀ h2, (∀ a, a ≠ 91 → a ≠ 92 → a ≠ 95 → a ≠ 96 → h2 a = h a) → Q (kWv (kWf Y v N n (3 * n)) a3) h2) : Cal G d m_X8_who [.ref 88, .int (nI s), .int (nI N), .int a3] h Q := by
  have hn := hS.1.1
  have hc : 1 ≤ nI N ∧ nI N ≤ 24 := ⟨nI_le (a := 1) hN1 (by omega), nI_le (b := 24) hN (by decide)⟩
  have hcl : (nI s).toNatClampNeg = s := nI_clamp (by omega)
  have hin : vp_in (nI s) 4 := vp_in_nI hs (by decide)
  have hle : h 90 0 ≤ h 99 s := by rw [hS.1.2.2, hL]; exact nI_le hnL (by omega)
  refine cg_X8_who hd ⟨fun q => absurd (i3.mpr (iLt hs (by decide))) (kb_0.mp q), fun _ => ⟨fun q => absurd hc (kb_0.mp q), fun _ => ⟨fun _ => ?_, fun q => absurd (i2.mpr hv) (kb_0.mp q)⟩⟩⟩
  rw [hcl]
  refine ⟨fun z => absurd z hi, fun _ => ⟨hin, ⟨fun z => absurd z hb, fun _ => ⟨hin, ⟨fun _ => ⟨by decide, fun h18 e18 => ⟨by decide, fun h20 e20 h21 e21 => ?_⟩⟩, fun z => absurd hle z⟩⟩⟩⟩⟩
  have o21 : ∀ a, a ≠ 89 → a ≠ 91 → a ≠ 92 → h21 a = h a := fun a z1 z2 z3 => by rw [e21, kCp_ne z3, e20, kCp_ne z1, e18, kCp_ne z2]
  have g21 : h21 89 = h20 89 := by rw [e21, kCp_ne (by decide)]
  have gk : ∀ j, j < 481 → h21 89 j = h 90 j := fun j hj => by rw [g21, e20, kCp_eq, cpyS j hj, e18, kCp_ne (by decide)]
  have gh : ∀ j, ¬ j < 481 → h21 89 j = h 89 j := fun j hj => by rw [g21, e20, kCp_eq, cpy0, if_neg hj, e18, kCp_ne (by decide)]
  have c91 : ∀ j, j < 481 → h21 91 j = h 89 j := fun j hj => by rw [e21, kCp_ne (by decide), e20, kCp_ne (by decide), e18, kCp_eq, cpyS j hj]
  have c92 : ∀ j, j < 147 → h21 92 j = h21 89 j := fun j hj => by rw [g21, e21, kCp_eq, cpy0, if_pos hj]
  have cr : kCopied v v := ⟨fun _ _ _ => rfl, fun _ _ => rfl, fun _ _ => rfl, fun _ _ => rfl, fun _ _ => rfl, fun _ _ => rfl, fun _ _ => rfl, fun _ _ => rfl, fun _ _ => rfl, fun _ _ => rfl, fun _ _ => rfl, rfl, fun _ _ => rfl, rfl, fun _ _ => rfl⟩
  have hS2 : kSRn v (h21 89) n H f w := hS.copy cr gk
  have hY2 : ∀ p, p < n → h21 100 (24 * s + p) = Y p := fun p hp => by rw [o21 100 (by decide) (by decide) (by decide)]; exact hY p hp
  refine sp_X8_goI (d := d - 1) (by omega) (i0 := 0) (by omega) (by omega) (kAh.start rfl hS2) (fun h23 a23 => ?_)
  rw [Nat.zero_add] at a23
  refine sp_X8_lieSo (Y := Y) (d := d - 1) (by omega) a23.2.2 hs (fun p hp => by rw [a23.1 100 (by decide) (by decide) (by decide)]; exact hY2 p hp) ?_
  have st : ∀ y h27, y = kLy Y (kHrN v N) n → h27 = kCp h23 92 89 0 0 147 → at_X8_who_130 G d Q (nI s) (nI N) a3 y 0 (-1) 0 h27 := fun y h27 ey e27 => by
    obtain ⟨b1, b2⟩ := a23.back2 (g0 := h21 89) c92 (fun _ _ => rfl) e27
    rw [ey]
    refine lp_m130 (h := h21) (Q := Q) (a3 := a3) hd hS2 hs hN hH c92 hY2 (fun h28 g28 o28 => ?_) (3 * n) 0 h27 (by omega) b1 b2
    have e0 : (3 : Int32) * h28 89 0 = nI (3 * n) := by rw [g28, hS2.1.2.2]; exact pk_mul 3 n
    refine sg_X8_who_130 hd ⟨fun _ => ⟨by decide, fun h3 e3 => ?_⟩, fun z => absurd (by rw [e0]; exact nI_le (Nat.le_refl _) (by omega)) z⟩
    have o3 : ∀ a, a ≠ 91 → a ≠ 92 → a ≠ 95 → a ≠ 96 → h3 a = h a := fun a z1 z2 z3 z4 => by
      by_cases e : a = 89
      · subst e
        rw [e3, kCp_eq]
        funext j
        rw [cpy0]
        by_cases hj : j < 481
        · rw [if_pos hj, o28 91 (by decide) (by decide) (by decide)]
          exact c91 j hj
        · rw [if_neg hj, g28]
          exact gh j hj
      · rw [e3, kCp_ne e, o28 a e z3 z4, o21 a e z1 z2]
    have kf : kFi (kWf Y v N n (3 * n)) = -1 ↔ (kWf Y v N n (3 * n)).2.1 = 0 := kFi_0 (by omega)
    refine ⟨fun n1 => ⟨fun n0 => ?_, fun e0 => ?_⟩, fun e1 => ⟨fun z => ⟨fun n0 => ?_, fun e0 => absurd (e1.symm.trans e0) (by decide)⟩, fun z => ⟨kin7 (n := 2) (by decide), k1 e1 (kf.mp z) h3 o3⟩⟩⟩
    · have r := k2 (fun q => n1 q.1) h3 o3
      unfold kWv at r
      rw [if_neg n0, if_neg n1] at r
      exact r
    · have r := k2 (fun q => n1 q.1) h3 o3
      unfold kWv at r
      rw [if_pos e0] at r
      exact r
    · have zz : ¬ (kWf Y v N n (3 * n)).2.1 = 0 := fun e => z (kf.mpr e)
      have r := k2 (fun q => zz q.2) h3 o3
      unfold kWv at r
      rw [if_neg n0, if_pos e1] at r
      have ef : kFi (kWf Y v N n (3 * n)) = kNk (kWf Y v N n (3 * n)).2.2 := if_neg zz
      rw [ef]
      exact r
  exact ⟨fun z h27 e27 => st 0 h27 z.symm e27, fun z h28 e28 => st 1 h28 ((kLy_01 n).resolve_left z).symm e28⟩
theorem kd80 {s : Nat} (hs : s < 4) : kd (79 + 2 * s + 1) = (1, 24) := by
  rcases (show s = 0 ∨ s = 1 ∨ s = 2 ∨ s = 3 by omega) with rfl | rfl | rfl | rfl <;> rfl
theorem st_who (hd : 10 ≤ d) (hR : kRel h) (a1 a2 a3 : Int32) : kStp G d m_X7_who m_X8_who [.int a1, .int a2, .int a3] h := by
  have i1' := kin7 (n := 1) (by decide)
  have i2' := kin7 (n := 2) (by decide)
  have r3 := hR.2.2.1
  by_cases hc : 0 ≤ a1 ∧ a1 < 4
  · by_cases hu : 1 ≤ a2 ∧ a2 ≤ 24
    · by_cases hv : 0 ≤ a3 ∧ a3 < 3
      · obtain ⟨s, hs, rfl⟩ := iI (n := 4) (by decide) hc.1 hc.2
        obtain ⟨N, hN1, hN, rfl⟩ := iB 1 24 (by decide) hu.1 hu.2 (by decide)
        have hcl : (nI s).toNatClampNeg = s := nI_clamp (by omega)
        have hin : vp_in (nI s) 4 := vp_in_nI hs (by decide)
        have hr := hR.2.2.2.2.2 s hs
        obtain ⟨⟨L, hL, t2, t3⟩, t4, t5, t6⟩ := hR.2.2.2.2.2 s hs
        refine cg_X7_who (by omega) ⟨fun q => absurd hc (kb_0.mp q), fun _ => ⟨fun q => absurd hu (kb_0.mp q), fun _ => ⟨fun _ => ⟨hin, fun q9 e9 k9 => ?_⟩, fun q => absurd hv (kb_0.mp q)⟩⟩⟩
        rw [hcl] at e9
        subst e9
        rw [t4, t2]
        have none : ∀ h1, h1 = kErr h 87 2 → (h 88 4 = 0 ∨ h 98 s = 0 ∨ ¬ h 90 0 ≤ h 99 s) → Cal G d m_X8_who [.ref 88, .int (nI s), .int (nI N), .int a3] h1 (fun y h2 => -1000000000 - 2 = y ∧ kRel h2) := fun h1 e1 c => by
          have o1 : ∀ a, a ≠ 87 → h1 a = h a := fun a ha => by rw [e1, kErr_ne ha]
          refine cg_X8_who hd ⟨fun q => absurd (i3.mpr hc) (kb_0.mp q), fun _ => ⟨fun q => absurd hu (kb_0.mp q), fun _ => ⟨fun _ => ?_, fun q => absurd (i2.mpr hv) (kb_0.mp q)⟩⟩⟩
          rw [hcl, o1 88 (by decide), o1 98 (by decide), o1 99 (by decide), o1 90 (by decide)]
          have er := And.intro i2' (kErrs hR (x := -1000000000 - 2) h1 e1)
          by_cases c1 : h 88 4 = 0
          · exact ⟨fun _ => er, fun z => absurd c1 z⟩
          · by_cases c2 : h 98 s = 0
            · exact ⟨fun z => absurd z c1, fun _ => ⟨hin, ⟨fun _ => er, fun z => absurd c2 z⟩⟩⟩
            · have c3 := (c.resolve_left c1).resolve_left c2
              exact ⟨fun z => absurd z c1, fun _ => ⟨hin, ⟨fun z => absurd z c2, fun _ => ⟨hin, ⟨fun z => absurd z c3, fun _ => er⟩⟩⟩⟩⟩
        by_cases hz : h 0 2 = 0
        · exact ⟨fun _ => ⟨i2', fun h1 e1 => none h1 e1 (Or.inl (by rw [← r3]; exact hz))⟩, fun z => absurd hz z⟩
        refine ⟨fun z => absurd z hz, fun _ => ?_⟩
        by_cases hy : h 98 s = 0
        · exact ⟨fun _ => ⟨i2', fun h1 e1 => none h1 e1 (Or.inr (Or.inl hy))⟩, fun z => absurd hy (kb_n0.mp z)⟩
        refine ⟨fun z => absurd hy (kb_0.mp z), fun _ => ?_⟩
        obtain ⟨n, H, f, w, hS, hH⟩ := hR.2.1 hz
        have n1 : h 18 12 = nI n := hS.1.2.1
        have hn := hS.1.1
        rw [n1]
        by_cases hl : n ≤ L
        · have hl2 : nI n ≤ nI L := nI_le hl (by omega)
          refine ⟨fun _ => ?_, fun z => absurd hl2 z⟩
          refine sp_X0_findWho (d := d - 1) (by omega) hS hN hH (kd80 hs) (by omega) (fun h1 q1 y10 y8 y9 => ?_)
          have q2 := q1.scr kSea_is18
          have hR1 : kRel h1 := hR.scr q2
          have oq : ∀ a, 70 < a → h1 a = h a := fun a ha => q1 a (by omega) (by omega) (by omega)
          have ec : kWf (h (79 + 2 * s + 1)) (kVw h 18) N n (3 * n) = kWf (fun p => h 100 (24 * s + p)) (kVw h 18) N n (3 * n) := kWf_cong (fun p hp c hc64 => by
            rw [show 79 + 2 * s + 1 = 80 + 2 * s by omega]
            exact hr.cell hy (by omega) hc64) (3 * n)
          rw [ec] at y10 y8 y9
          rw [y10, y8, y9]
          have mo : ∀ {Q2 : Int32 → kM → Prop} (h2 : kM), (∀ a, 70 < a → a ≠ 87 → h2 a = h a) → (a3 = 1 → (kWf (fun p => h 100 (24 * s + p)) (kVw h 18) N n (3 * n)).2.1 = 0 → ∀ h3, (∀ a, a ≠ 91 → a ≠ 92 → a ≠ 95 → a ≠ 96 → h3 a = h2 a) → ∀ h5, h5 = kErr h3 93 2 → Q2 (-1000000000 - 2) h5) → (¬ (a3 = 1 ∧ (kWf (fun p => h 100 (24 * s + p)) (kVw h 18) N n (3 * n)).2.1 = 0) → ∀ h3, (∀ a, a ≠ 91 → a ≠ 92 → a ≠ 95 → a ≠ 96 → h3 a = h2 a) → Q2 (kWv (kWf (fun p => h 100 (24 * s + p)) (kVw h 18) N n (3 * n)) a3) h3) → Cal G d m_X8_who [.ref 88, .int (nI s), .int (nI N), .int a3] h2 Q2 := fun h2 o2 k1 k2 =>
            mo_who (Y := fun p => h 100 (24 * s + p)) (v := kVw h 18) (L := L) hd (by rw [o2 90 (by decide) (by decide)]; exact hS) hs hN1 hN hH hv (by rw [o2 88 (by decide) (by decide), ← r3]; exact hz) (by rw [o2 98 (by decide) (by decide)]; exact hy) (by rw [o2 99 (by decide) (by decide)]; exact t3) hL hl (fun p hp => by rw [o2 100 (by decide) (by decide)]) k1 k2
          have w1 := (kWf_f (X := fun p => h 100 (24 * s + p)) (v := kVw h 18) (N := N) (n := n) (3 * n)).1
          have good : ¬ (a3 = 1 ∧ (kWf (fun p => h 100 (24 * s + p)) (kVw h 18) N n (3 * n)).2.1 = 0) → ∀ x, x = kWv (kWf (fun p => h 100 (24 * s + p)) (kVw h 18) N n (3 * n)) a3 → Cal G d m_X8_who [.ref 88, .int (nI s), .int (nI N), .int a3] h1 (fun y h2 => x = y ∧ kRel h2) := fun ng x ex =>
            mo h1 (fun a ha _ => oq a ha) (fun e1 e2 => absurd ⟨e1, e2⟩ ng) (fun _ h3 o3 => ⟨ex, hR1.scr (fun a ha => o3 a (by unfold kScr at ha; omega) (by unfold kScr at ha; omega) (by unfold kScr at ha; omega) (by unfold kScr at ha; omega))⟩)
          refine ⟨fun n0 => ⟨fun n2 => ⟨fun nz => ?_, fun z => ⟨i2', fun h2 e2 => ?_⟩⟩, fun e2 => ?_⟩, fun e0 => ?_⟩
          · refine good (fun q => nz (by rw [q.2]; exact nI_0)) _ ?_
            have e1 : a3 = 1 := by
              obtain ⟨c, hc3, rfl⟩ := iI (n := 3) (by decide) hv.1 hv.2
              rcases (show c = 0 ∨ c = 1 ∨ c = 2 by omega) with rfl | rfl | rfl
              · exact absurd nI_0 n0
              · rfl
              · exact absurd rfl n2
            unfold kWv
            rw [if_neg n0, if_pos e1]
            rfl
          · have e1 : a3 = 1 := by
              obtain ⟨c, hc3, rfl⟩ := iI (n := 3) (by decide) hv.1 hv.2
              rcases (show c = 0 ∨ c = 1 ∨ c = 2 by omega) with rfl | rfl | rfl
              · exact absurd nI_0 n0
              · rfl
              · exact absurd rfl n2
            have z0 : (kWf (fun p => h 100 (24 * s + p)) (kVw h 18) N n (3 * n)).2.1 = 0 := (nI_eq (b := 0) (by omega) (by decide)).mp (z.trans nI_0.symm)
            exact mo h2 (fun a ha h87 => by rw [e2, kErr_ne h87]; exact oq a ha) (fun _ _ h3 o3 h5 e5 => ⟨rfl, hR1.errS e2 (fun a ha => o3 a (by unfold kScr at ha; omega) (by unfold kScr at ha; omega) (by unfold kScr at ha; omega) (by unfold kScr at ha; omega)) e5⟩) (fun ng => absurd ⟨e1, z0⟩ ng)
          · refine good (fun q => absurd (e2.symm.trans q.1) (by decide)) _ ?_
            unfold kWv
            rw [if_neg n0, if_neg (fun q => absurd (e2.symm.trans q) (by decide))]
          · refine good (fun q => absurd (e0.symm.trans q.1) (by decide)) _ ?_
            unfold kWv
            rw [if_pos e0]
        · have hl2 : ¬ nI n ≤ nI L := ltn (nI_lt (by omega) (by omega))
          refine ⟨fun z => absurd z hl2, fun _ => ⟨i2', fun h1 e1 => none h1 e1 (Or.inr (Or.inr ?_))⟩⟩
          rw [hS.1.2.2, t3]
          exact hl2
      · refine cg_X7_who (by omega) ⟨fun q => absurd hc (kb_0.mp q), fun _ => ⟨fun q => absurd hu (kb_0.mp q), fun _ => ⟨fun q => absurd (kb_n0.mp q) hv, fun _ => ⟨i1', fun h1 e1 => ?_⟩⟩⟩⟩
        exact cg_X8_who hd ⟨fun q => absurd (i3.mpr hc) (kb_0.mp q), fun _ => ⟨fun q => absurd hu (kb_0.mp q), fun _ => ⟨fun q => absurd (i2.mp (kb_n0.mp q)) hv, fun _ => ⟨i1', kErrs hR h1 e1⟩⟩⟩⟩
    · refine cg_X7_who (by omega) ⟨fun q => absurd hc (kb_0.mp q), fun _ => ⟨fun _ => ⟨i1', fun h1 e1 => ?_⟩, fun q => absurd (kb_n0.mp q) hu⟩⟩
      exact cg_X8_who hd ⟨fun q => absurd (i3.mpr hc) (kb_0.mp q), fun _ => ⟨fun _ => ⟨i1', kErrs hR h1 e1⟩, fun q => absurd (kb_n0.mp q) hu⟩⟩
  · refine cg_X7_who (by omega) ⟨fun _ => ⟨i1', fun h1 e1 => ?_⟩, fun q => absurd (kb_n0.mp q) hc⟩
    exact cg_X8_who hd ⟨fun _ => ⟨i1', kErrs hR h1 e1⟩, fun q => absurd (i3.mp (kb_n0.mp q)) hc⟩
end MWho

