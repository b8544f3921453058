/-! what would be if one knot more were loosed: the class's foresight -/
section Fore
variable {G : kG} {d : Nat} {Q : Int32 → kM → Prop} {h : kM}
theorem kSum_one {f f' : Nat → Int32} {s : Int32} {k : Nat} : ∀ (n : Nat), k < n → (∀ j, j < n → j ≠ k → f' j = f j) → f k = 0 → kSum f' s n = kSum f s n + f' k
  | 0, hk, _, _ => absurd hk (Nat.not_lt_zero k)
  | n + 1, hk, e, e0 => by
    show kSum f' s n + f' n = kSum f s n + f n + f' k
    by_cases c : n = k
    · subst c
      rw [kSum_congr n (fun i hi => e i (by omega) (by omega)), e0, Int32.add_zero]
    · rw [kSum_one n (by omega) (fun j hj => e j (by omega)) e0, e n (by omega) c, Int32.add_assoc, Int32.add_comm (f' k), ← Int32.add_assoc]
theorem kNs_lo {u : kM} {k : Nat} : kNs (kLo u k) = kNs u := by
  unfold kNs
  rw [kLo_c (by decide)]
theorem add_sub_l (a s : Int32) : a + s - a = s := by rw [Int32.add_comm, Int32.add_sub_cancel]
/-- the wind, one knot more being loosed -/
theorem kWn_lo {u : kM} {k : Nat} (hk : k < 3 * kNs u) (ht : u 8 k = -1) (hm : ¬ u 0 13 = -1) (what s : Int32) : kWn (kLo u k) what (u 0 13 + s) = kWn u what (u 0 13 + s) + kShare (u 7 k) what * kFo u k s := by
  have fo : ∀ j a, kFo (kLo u k) j a = kFo u j a := fun j a => by
    unfold kFo
    rw [kLo_c (by decide), kLo_c (by decide), kLo_c (by decide), kLo_c (by decide), kLo_c (by decide)]
  have fk : kWt (kLo u k) what (u 0 13 + s) k = kShare (u 7 k) what * kFo u k s := by
    unfold kWt
    rw [kLo_8, pk_us, if_neg hm, kLo_c (by decide), fo, add_sub_l]
  unfold kWn
  rw [kNs_lo, kLo_c (a := 2) (by decide), ← fk]
  refine kSum_one _ hk (fun j _ hj => ?_) ?_
  · unfold kWt
    rw [kLo_8, pk_un hj, kLo_c (by decide), fo]
  · unfold kWt
    rw [if_pos ht]
theorem kWn_loN {v : kM} {g : Nat → Int32} {n H f w i k : Nat} (hS : kSRn v g n H f w) (hH : H + i ≤ 100000) (hk : k < 3 * n) (ht : v 8 k = -1) (what : Int32) (s : Nat) : kWn (kLo (kHrN v i) k) what (kLo (kHrN v i) k 0 13 + nI s) = kWn v what (v 0 13 + nI (i + s)) + kShare (v 7 k) what * kFo v k (nI s) := by
  have e13 : kHrN v i 0 13 = nI (H + i) := by rw [kHrN_h, hS.2.1.2.1, nI_add]
  have fo : kFo (kHrN v i) k (nI s) = kFo v k (nI s) := by
    unfold kFo
    rw [kHrN_c (by decide) (by decide) i, kHrN_c (by decide) (by decide) i, kHrN_c (by decide) (by decide) i, kHrN_c (by decide) (by decide) i, kHrN_c (by decide) (by decide) i]
  rw [kLo_c (a := 0) (by decide), kWn_lo (by rw [kNs_N, hS.ns]; exact hk) (by rw [kHrN_c (by decide) (by decide) i]; exact ht) (by rw [e13]; exact nI_m1 (by omega)), kWn_N, fo, kHrN_c (a := 7) (by decide) (by decide) i, kHrN_h, Int32.add_assoc, nI_add]
/-- a way that goes on with a knot loosed -/
abbrev kUp (v : kM) (i k : Nat) : kM := kLo (kHrN v i) k
theorem kSRn.up {v : kM} {g : Nat → Int32} {n H f w i k : Nat} (hS : kSRn v g n H f w) (hH : H + i ≤ 100000) (hk : k < 3 * n) : ∃ g', kSRn (kUp v i k) g' n (H + i) f w := by
  obtain ⟨g1, h1⟩ := hS.hrN i hH
  exact ⟨_, h1.lo hk kVEq.rf rfl⟩
theorem kSh_up0 {v : kM} {i k p : Nat} : kSh (kUp v i k) p 0 = kSh v p i := by
  show kXy (kLo (kHrN v i) k 3 p) = kXy (kHrN v i 3 p)
  rw [kLo_c (by decide)]
theorem kSh_ups {v : kM} {g : Nat → Int32} {n H f w i k p s : Nat} (hS : kSRn v g n H f w) (hH : H + i + s + 1 ≤ 100000) (hk : k < 3 * n) (ht : v 8 k = -1) (hp : p < n) : kSai (v 1) (kPort v p) (kWn v 0 (v 0 13 + nI (i + s)) + kShare (v 7 k) 0 * kFo v k (nI s)) (kWn v 1 (v 0 13 + nI (i + s)) + kShare (v 7 k) 1 * kFo v k (nI s)) (kSh (kUp v i k) p s) = kSh (kUp v i k) p (s + 1) := by
  obtain ⟨g', hU⟩ := hS.up (i := i) (k := k) (by omega) hk
  have e := kSh_s (i := s) hU hp (by omega)
  rw [kWn_loN hS (by omega) hk ht, kWn_loN hS (by omega) hk ht] at e
  have e1 : kUp v i k 1 = v 1 := by
    show kLo (kHrN v i) k 1 = v 1
    rw [kLo_c (by decide), kHrN_c (by decide) (by decide) i]
  have e4 : kPort (kUp v i k) p = kPort v p := by
    show (kLo (kHrN v i) k 4 p).toNatClampNeg = (v 4 p).toNatClampNeg
    rw [kLo_c (by decide), kHrN_c (by decide) (by decide) i]
  rw [e1, e4] at e
  exact e
theorem kSh_stay {v : kM} {g : Nat → Int32} {n H f w p s : Nat} (hS : kSRn v g n H f w) (hp : p < n) (hx : ¬ (kSh v p s).2 = 0) : ∀ m, H + s + m ≤ 100000 → kSh v p (s + m) = kSh v p s
  | 0, _ => rfl
  | m + 1, hH => by
    have ih := kSh_stay hS hp hx m (by omega)
    have e := kSh_s (i := s + m) hS hp (by omega)
    rw [ih, kSai_done hx] at e
    exact e.symm
/-- outside the foresight's cells, and the stacks of a sea's texts, nothing differs -/
def kFs (b : Nat) (h h' : kM) : Prop := ∀ a, ¬ (40 ≤ a ∧ a ≤ 70) → a ≠ b + 13 → a ≠ b + 16 → h' a = h a
theorem kFs.rf {b : Nat} {h : kM} : kFs b h h := fun _ _ _ _ => rfl
theorem kFs.tr {b : Nat} {h h1 h2 : kM} (e1 : kFs b h h1) (e2 : kFs b h1 h2) : kFs b h h2 := fun a x y z => (e2 a x y z).trans (e1 a x y z)
theorem kFs.s1 {b : Nat} {h h1 : kM} (e : kS1 b h h1) : kFs b h h1 := fun a _ y z => e a y z
theorem kFs.u {b c j : Nat} {x : Int32} {h h1 : kM} (hc : 40 ≤ c ∧ c ≤ 70) (e : h1 = kU h c j x) : kFs b h h1 := fun a y _ _ => by rw [e, kU_ne (by omega)]
theorem kFs.eq {b : Nat} {h h1 : kM} (e : kFs b h h1) (hb : kSea b) : kVEq (kVw h b) (kVw h1 b) := fun a x y => by
  unfold kSea at hb
  exact e (b + a) (by omega) (by omega) (by omega)
/-- what the class has looked at: the winds of T hours, the ships' places of the hours up to t, behind t of the ships below i -/
def kLk (b N n T t i : Nat) (h0 h : kM) : Prop := kFs b h0 h ∧ h 40 5 = nI N ∧ (∀ s, s < T → h 41 s = kWn (kVw h0 b) 0 (kVw h0 b 0 13 + nI s) ∧ h 42 s = kWn (kVw h0 b) 1 (kVw h0 b 0 13 + nI s)) ∧ (∀ s, s ≤ t → ∀ p, p < n → h (45 + s) p = kPl (kSh (kVw h0 b) p s)) ∧ (∀ p, p < i → h (45 + (t + 1)) p = kPl (kSh (kVw h0 b) p (t + 1)))
theorem kLk.keep {b N n T t i : Nat} {h0 h h1 : kM} (L : kLk b N n T t i h0 h) (hb : kSea b) (ht : t ≤ 23 ∨ (t ≤ 24 ∧ i = 0)) (ho : ∀ a, a ≠ 40 → a ≠ 43 → a ≠ 70 → a ≠ b + 13 → a ≠ b + 16 → h1 a = h a) (h5 : h1 40 5 = h 40 5) : kLk b N n T t i h0 h1 := by
  obtain ⟨l1, l2, l3, l4, l5⟩ := L
  unfold kSea at hb
  refine ⟨fun a x y z => by rw [ho a (by omega) (by omega) (by omega) y z, l1 a x y z], by rw [h5, l2], fun s hs => ?_, fun s hs p hp => ?_, fun p hp => ?_⟩
  · rw [ho 41 (by omega) (by omega) (by omega) (by omega) (by omega), ho 42 (by omega) (by omega) (by omega) (by omega) (by omega)]
    exact l3 s hs
  · rw [ho (45 + s) (by omega) (by omega) (by omega) (by omega) (by omega)]
    exact l4 s hs p hp
  · rw [ho (45 + (t + 1)) (by omega) (by omega) (by omega) (by omega) (by omega)]
    exact l5 p hp
def at_X0_lookFrom_13 (G : kG) (d : Nat) (Q : Int32 → kM → Prop) (b : Nat) (v2 : Int32) (v3 : Int32) (h : kM) : Prop := Wp G d m_X0_lookFrom (kEo G d m_X0_lookFrom Q) 13 [.ref 40, .ref b, .int v2, .int v3, .null] [] h
def at_X0_lookFrom_43 (G : kG) (d : Nat) (Q : Int32 → kM → Prop) (b : Nat) (v2 : Int32) (v3 : Int32) (h : kM) : Prop := Wp G d m_X0_lookFrom (kEo G d m_X0_lookFrom Q) 43 [.ref 40, .ref b, .int v2, .int v3, .null] [] h
def at_X0_lookFrom_88 (G : kG) (d : Nat) (Q : Int32 → kM → Prop) (b : Nat) (v2 : Int32) (v3 : Int32) (v4 : Int32) (h : kM) : Prop := Wp G d m_X0_lookFrom (kEo G d m_X0_lookFrom Q) 88 [.ref 40, .ref b, .int v2, .int v3, .int v4] [] h
theorem sg_X0_lookFrom_0 {G : kG} {d : Nat} {Q : Int32 → kM → Prop} {b : Nat} {a1 : Int32} {h : kM} (hd : 6 ≤ d) (k_b : kSea b) (H :
    ∀ h1 : kM, h1 = kU h 40 5 (kHeld a1 (0 : Int32) (24 : Int32)) →
    at_X0_lookFrom_13 G d Q b a1 (0 : Int32) h1) : Wp G d m_X0_lookFrom (kEo G d m_X0_lookFrom Q) 0 [.ref 40, .ref b, .int a1, .null, .null] [] h := by
  refine wp_aload_n 1 dX0_lookFrom_0 rfl rfl ?_
  refine wp_iload_n 2 dX0_lookFrom_1 rfl rfl ?_
  refine wp_iconst (0 : Int32) 3 dX0_lookFrom_2 kiconst_0 rfl ?_
  refine wp_bipush (24 : Int32) 5 dX0_lookFrom_3 kbipush_24 rfl ?_
  refine wp_cN (d - 1) 3 [.int a1, .int (0 : Int32), .int (24 : Int32)] [.ref 40] 8 dX0_lookFrom_5 rfl (lk_X0_92 rfl) (by omega) rfl rfl (Nat.le_of_ble_eq_true rfl) (sp_X7_held (by omega)  ?_)
  refine wp_putI 11 dX0_lookFrom_8 rfl fl_X0_37 fin_0_5 kd_40 rfl ?_
  refine wp_nm (fun h1 eh1 => ?_)
  replace H := H h1 eh1
  refine wp_iconst (0 : Int32) 12 dX0_lookFrom_11 kiconst_0 rfl ?_
  refine wp_istore_n 13 dX0_lookFrom_12 rfl (Nat.le_of_ble_eq_true rfl) rfl ?_
  exact H

theorem cg_X0_lookFrom {G : kG} {d : Nat} {Q : Int32 → kM → Prop} {b : Nat} {a1 : Int32} {h : kM} (hd : 6 ≤ d) (k_b : kSea b) (H :
    ∀ h1 : kM, h1 = kU h 40 5 (kHeld a1 (0 : Int32) (24 : Int32)) →
    at_X0_lookFrom_13 G d Q b a1 (0 : Int32) h1) : Cal G d m_X0_lookFrom [.ref 40, .ref b, .int a1] h Q :=
  Cal.of [.ref 40, .ref b, .int a1, .null, .null] (by decide +kernel) (Nat.le_of_ble_eq_true rfl) rfl (sg_X0_lookFrom_0 hd k_b H)

theorem sg_X0_lookFrom_13 {G : kG} {d : Nat} {Q : Int32 → kM → Prop} {b : Nat} {v2 : Int32} {v3 : Int32} {h : kM} (hd : 6 ≤ d) (k_b : kSea b) (H :
    (((h b 12) ≤ v3 →
      at_X0_lookFrom_43 G d Q b v2 (0 : Int32) h
    ) ∧ (¬ ((h b 12) ≤ v3) →
      ∀ q2 : Nat, q2 = 45 + ((0 : Int32)).toNatClampNeg → kd q2 = (1, 5) →
      (vp_in v3 5) ∧
      (vp_in v3 5) ∧
      ∀ h5 : kM, h5 = kU h q2 (v3).toNatClampNeg (h (b + 3) (v3).toNatClampNeg) →
      at_X0_lookFrom_13 G d Q b v2 (v3 + (1 : Int32)) h5
    ))) : at_X0_lookFrom_13 G d Q b v2 v3 h := by
  show Wp G d m_X0_lookFrom (kEo G d m_X0_lookFrom Q) 13 [.ref 40, .ref b, .int v2, .int v3, .null] [] h
  refine wp_iload_n 14 dX0_lookFrom_13 rfl rfl ?_
  refine wp_aload_n 15 dX0_lookFrom_14 rfl rfl ?_
  refine wp_getI 18 dX0_lookFrom_15 rfl fl_X0_40 (kSea_0 k_b) rfl ?_
  refine wp_icmp_ge 41 21 dX0_lookFrom_18 rfl rfl ⟨fun c1 => ?_, fun c1 => ?_⟩
  · replace H := H.1 c1
    refine wp_iconst (0 : Int32) 42 dX0_lookFrom_41 kiconst_0 rfl ?_
    refine wp_istore_n 43 dX0_lookFrom_42 rfl (Nat.le_of_ble_eq_true rfl) rfl ?_
    exact H
  · replace H := H.2 c1
    refine wp_aload_n 22 dX0_lookFrom_21 rfl rfl ?_
    refine wp_getR 4 44 25 dX0_lookFrom_22 rfl fl_X0_23 kd_40 rfl rfl rfl rfl ?_
    refine wp_iconst (0 : Int32) 26 dX0_lookFrom_25 kiconst_0 rfl ?_
    refine wp_course 27 dX0_lookFrom_26 rfl (by unfold vp_in; decide) (fun q2 eq2 k_q2 => ?_)
    replace H := H q2 eq2 k_q2
    refine wp_iload_n 28 dX0_lookFrom_27 rfl rfl ?_
    refine wp_aload_n 29 dX0_lookFrom_28 rfl rfl ?_
    refine wp_getR 3 (b + 3) 32 dX0_lookFrom_29 rfl fl_X0_55 (kSea_0 k_b) rfl rfl rfl rfl ?_
    refine wp_iload_n 33 dX0_lookFrom_32 rfl rfl ?_
    have c3 := H.1; replace H := H.2
    refine wp_iald 34 dX0_lookFrom_33 rfl (kSea_3 k_b) c3 ?_
    have c4 := H.1; replace H := H.2
    refine wp_iast 35 dX0_lookFrom_34 rfl k_q2 c4 ?_
    refine wp_nm (fun h5 eh5 => ?_)
    replace H := H h5 eh5
    refine wp_iinc (1 : Int32) 38 dX0_lookFrom_35 rfl rfl kiconst_1 (Nat.le_of_ble_eq_true rfl) rfl ?_
    refine wp_goto 13 dX0_lookFrom_38 rfl ?_
    exact H

theorem sg_X0_lookFrom_43 {G : kG} {d : Nat} {Q : Int32 → kM → Prop} {b : Nat} {v2 : Int32} {v3 : Int32} {h : kM} (hd : 6 ≤ d) (k_b : kSea b) (H :
    (((h 40 5) ≤ v3 →
      Q 0 h
    ) ∧ (¬ ((h 40 5) ≤ v3) →
      (vp_in (0 : Int32) 2 ∧ kSeaOk (kVw h b)) ∧
      ∀ (h3 : kM), kS1 b h h3 →
      (vp_in v3 24) ∧
      ∀ h5 : kM, h5 = kU h3 41 (v3).toNatClampNeg (kWn (kVw h b) (0 : Int32) ((h b 13) + v3)) →
      (vp_in (1 : Int32) 2 ∧ kSeaOk (kVw h5 b)) ∧
      ∀ (h7 : kM), kS1 b h5 h7 →
      (vp_in v3 24) ∧
      ∀ h9 : kM, h9 = kU h7 42 (v3).toNatClampNeg (kWn (kVw h5 b) (1 : Int32) ((h5 b 13) + v3)) →
      at_X0_lookFrom_88 G d Q b v2 v3 (0 : Int32) h9
    ))) : at_X0_lookFrom_43 G d Q b v2 v3 h := by
  show Wp G d m_X0_lookFrom (kEo G d m_X0_lookFrom Q) 43 [.ref 40, .ref b, .int v2, .int v3, .null] [] h
  refine wp_iload_n 44 dX0_lookFrom_43 rfl rfl ?_
  refine wp_aload_n 45 dX0_lookFrom_44 rfl rfl ?_
  refine wp_getI 48 dX0_lookFrom_45 rfl fl_X0_37 kd_40 rfl ?_
  refine wp_icmp_ge 147 51 dX0_lookFrom_48 rfl rfl ⟨fun c1 => ?_, fun c1 => ?_⟩
  · replace H := H.1 c1
    exact wp_retv dX0_lookFrom_147 rfl H
  · replace H := H.2 c1
    refine wp_aload_n 52 dX0_lookFrom_51 rfl rfl ?_
    refine wp_getR 1 41 55 dX0_lookFrom_52 rfl fl_X0_9 kd_40 rfl rfl rfl rfl ?_
    refine wp_iload_n 56 dX0_lookFrom_55 rfl rfl ?_
    refine wp_aload_n 57 dX0_lookFrom_56 rfl rfl ?_
    refine wp_iconst (0 : Int32) 58 dX0_lookFrom_57 kiconst_0 rfl ?_
    refine wp_aload_n 59 dX0_lookFrom_58 rfl rfl ?_
    refine wp_getI 62 dX0_lookFrom_59 rfl fl_X0_52 (kSea_0 k_b) rfl ?_
    refine wp_iload_n 63 dX0_lookFrom_62 rfl rfl ?_
    refine wp_iadd 64 dX0_lookFrom_63 rfl ?_
    have c2 := H.1; replace H := H.2
    refine wp_cV (d - 1) 2 [.int (0 : Int32), .int ((h b 13) + v3)] [.int v3, .ref 41] 67 dX0_lookFrom_64 rfl (lk_X0_96 rfl) (by omega) (kSea_0 k_b) rfl rfl rfl (Nat.le_of_ble_eq_true rfl) (sp_X2_windAt (by omega) k_b c2 (fun h3 eh3 => ?_))
    replace H := H h3 eh3
    have c4 := H.1; replace H := H.2
    refine wp_iast 68 dX0_lookFrom_67 rfl kd_41 c4 ?_
    refine wp_nm (fun h5 eh5 => ?_)
    replace H := H h5 eh5
    refine wp_aload_n 69 dX0_lookFrom_68 rfl rfl ?_
    refine wp_getR 2 42 72 dX0_lookFrom_69 rfl fl_X0_15 kd_40 rfl rfl rfl rfl ?_
    refine wp_iload_n 73 dX0_lookFrom_72 rfl rfl ?_
    refine wp_aload_n 74 dX0_lookFrom_73 rfl rfl ?_
    refine wp_iconst (1 : Int32) 75 dX0_lookFrom_74 kiconst_1 rfl ?_
    refine wp_aload_n 76 dX0_lookFrom_75 rfl rfl ?_
    refine wp_getI 79 dX0_lookFrom_76 rfl fl_X0_52 (kSea_0 k_b) rfl ?_
    refine wp_iload_n 80 dX0_lookFrom_79 rfl rfl ?_
    refine wp_iadd 81 dX0_lookFrom_80 rfl ?_
    have c6 := H.1; replace H := H.2
    refine wp_cV (d - 1) 2 [.int (1 : Int32), .int ((h5 b 13) + v3)] [.int v3, .ref 42] 84 dX0_lookFrom_81 rfl (lk_X0_96 rfl) (by omega) (kSea_0 k_b) rfl rfl rfl (Nat.le_of_ble_eq_true rfl) (sp_X2_windAt (by omega) k_b c6 (fun h7 eh7 => ?_))
    replace H := H h7 eh7
    have c8 := H.1; replace H := H.2
    refine wp_iast 85 dX0_lookFrom_84 rfl kd_42 c8 ?_
    refine wp_nm (fun h9 eh9 => ?_)
    replace H := H h9 eh9
    refine wp_iconst (0 : Int32) 86 dX0_lookFrom_85 kiconst_0 rfl ?_
    refine wp_istore 88 dX0_lookFrom_86 rfl (Nat.le_of_ble_eq_true rfl) rfl ?_
    exact H

theorem sg_X0_lookFrom_88 {G : kG} {d : Nat} {Q : Int32 → kM → Prop} {b : Nat} {v2 : Int32} {v3 : Int32} {v4 : Int32} {h : kM} (hd : 6 ≤ d) (k_b : kSea b) (H :
    (((h b 12) ≤ v4 →
      at_X0_lookFrom_43 G d Q b v2 (v3 + (1 : Int32)) h
    ) ∧ (¬ ((h b 12) ≤ v4) →
      (vp_in (v3 + (1 : Int32)) 25) ∧
      ∀ q3 : Nat, q3 = 45 + ((v3 + (1 : Int32))).toNatClampNeg → kd q3 = (1, 5) →
      (vp_in v3 25) ∧
      ∀ q5 : Nat, q5 = 45 + (v3).toNatClampNeg → kd q5 = (1, 5) →
      (vp_in v4 5) ∧
      (vp_in v3 24) ∧
      (vp_in v3 24) ∧
      Cal G (d - 1) m_X2_sailed [.ref b, .int v4, .int (h q5 (v4).toNatClampNeg), .int (h 41 (v3).toNatClampNeg), .int (h 42 (v3).toNatClampNeg)] h (fun x9 h10 =>
        (vp_in v4 5) ∧
        ∀ h12 : kM, h12 = kU h10 q3 (v4).toNatClampNeg x9 →
        at_X0_lookFrom_88 G d Q b v2 v3 (v4 + (1 : Int32)) h12
      )
    ))) : at_X0_lookFrom_88 G d Q b v2 v3 v4 h := by
  show Wp G d m_X0_lookFrom (kEo G d m_X0_lookFrom Q) 88 [.ref 40, .ref b, .int v2, .int v3, .int v4] [] h
  refine wp_iload 90 dX0_lookFrom_88 rfl rfl ?_
  refine wp_aload_n 91 dX0_lookFrom_90 rfl rfl ?_
  refine wp_getI 94 dX0_lookFrom_91 rfl fl_X0_40 (kSea_0 k_b) rfl ?_
  refine wp_icmp_ge 141 97 dX0_lookFrom_94 rfl rfl ⟨fun c1 => ?_, fun c1 => ?_⟩
  · replace H := H.1 c1
    refine wp_iinc (1 : Int32) 144 dX0_lookFrom_141 rfl rfl kiconst_1 (Nat.le_of_ble_eq_true rfl) rfl ?_
    refine wp_goto 43 dX0_lookFrom_144 rfl ?_
    refine wp_drop 4 ?_
    exact H
  · replace H := H.2 c1
    refine wp_aload_n 98 dX0_lookFrom_97 rfl rfl ?_
    refine wp_getR 4 44 101 dX0_lookFrom_98 rfl fl_X0_23 kd_40 rfl rfl rfl rfl ?_
    refine wp_iload_n 102 dX0_lookFrom_101 rfl rfl ?_
    refine wp_iconst (1 : Int32) 103 dX0_lookFrom_102 kiconst_1 rfl ?_
    refine wp_iadd 104 dX0_lookFrom_103 rfl ?_
    have c2 := H.1; replace H := H.2
    refine wp_course 105 dX0_lookFrom_104 rfl c2 (fun q3 eq3 k_q3 => ?_)
    replace H := H q3 eq3 k_q3
    refine wp_iload 107 dX0_lookFrom_105 rfl rfl ?_
    refine wp_aload_n 108 dX0_lookFrom_107 rfl rfl ?_
    refine wp_iload 110 dX0_lookFrom_108 rfl rfl ?_
    refine wp_aload_n 111 dX0_lookFrom_110 rfl rfl ?_
    refine wp_getR 4 44 114 dX0_lookFrom_111 rfl fl_X0_23 kd_40 rfl rfl rfl rfl ?_
    refine wp_iload_n 115 dX0_lookFrom_114 rfl rfl ?_
    have c4 := H.1; replace H := H.2
    refine wp_course 116 dX0_lookFrom_115 rfl c4 (fun q5 eq5 k_q5 => ?_)
    replace H := H q5 eq5 k_q5
    refine wp_iload 118 dX0_lookFrom_116 rfl rfl ?_
    have c6 := H.1; replace H := H.2
    refine wp_iald 119 dX0_lookFrom_118 rfl k_q5 c6 ?_
    refine wp_aload_n 120 dX0_lookFrom_119 rfl rfl ?_
    refine wp_getR 1 41 123 dX0_lookFrom_120 rfl fl_X0_9 kd_40 rfl rfl rfl rfl ?_
    refine wp_iload_n 124 dX0_lookFrom_123 rfl rfl ?_
    have c7 := H.1; replace H := H.2
    refine wp_iald 125 dX0_lookFrom_124 rfl kd_41 c7 ?_
    refine wp_aload_n 126 dX0_lookFrom_125 rfl rfl ?_
    refine wp_getR 2 42 129 dX0_lookFrom_126 rfl fl_X0_15 kd_40 rfl rfl rfl rfl ?_
    refine wp_iload_n 130 dX0_lookFrom_129 rfl rfl ?_
    have c8 := H.1; replace H := H.2
    refine wp_iald 131 dX0_lookFrom_130 rfl kd_42 c8 ?_
    refine wp_cV (d - 1) 4 [.int v4, .int (h q5 (v4).toNatClampNeg), .int (h 41 (v3).toNatClampNeg), .int (h 42 (v3).toNatClampNeg)] [.int v4, .ref q3] 134 dX0_lookFrom_131 rfl (lk_X0_100 rfl) (by omega) (kSea_0 k_b) rfl rfl rfl (Nat.le_of_ble_eq_true rfl) (H.mono (fun x9 h10 H => ?_))
    have c11 := H.1; replace H := H.2
    refine wp_iast 135 dX0_lookFrom_134 rfl k_q3 c11 ?_
    refine wp_nm (fun h12 eh12 => ?_)
    replace H := H h12 eh12
    refine wp_iinc (1 : Int32) 138 dX0_lookFrom_135 rfl rfl kiconst_1 (Nat.le_of_ble_eq_true rfl) rfl ?_
    refine wp_goto 88 dX0_lookFrom_138 rfl ?_
    exact H

theorem lp_look88 (hd : 6 ≤ d) {b N n t : Nat} {a : Int32} {h0 : kM} {g : Nat → Int32} {H f w : Nat} (hb : kSea b) (hS : kSRn (kVw h0 b) g n H f w) (hN : N ≤ 24) (hH : H ≤ 9999) (ht : t < N) (kk : ∀ h1, kLk b N n (t + 1) (t + 1) 0 h0 h1 → at_X0_lookFrom_43 G d Q b a (nI (t + 1)) h1) : ∀ (m i : Nat) (h1 : kM), i + m = n → kLk b N n (t + 1) t i h0 h1 → at_X0_lookFrom_88 G d Q b a (nI t) (nI i) h1 := by
  have hn := hS.1.1
  have hb' := id hb
  unfold kSea at hb'
  intro m
  induction m with
  | zero =>
    intro i h1 hi L
    have hi2 : i = n := by omega
    subst hi2
    have b12 : h1 b 12 = nI i := by rw [L.1 b (by omega) (by omega) (by omega)]; exact hS.1.2.1
    refine sg_X0_lookFrom_88 hd hb ⟨fun _ => ?_, fun z => absurd (by rw [b12]; exact nI_le (Nat.le_refl _) (by omega)) z⟩
    rw [nI_1]
    obtain ⟨l1, l2, l3, l4, l5⟩ := L
    refine kk h1 ⟨l1, l2, l3, fun s hs p hp => ?_, fun p hp => absurd hp (Nat.not_lt_zero p)⟩
    by_cases e : s = t + 1
    · subst e
      exact l5 p hp
    · exact l4 s (by omega) p hp
  | succ m ih =>
    intro i h1 hi L
    obtain ⟨l1, l2, l3, l4, l5⟩ := id L
    have b12 : h1 b 12 = nI n := by rw [l1 b (by omega) (by omega) (by omega)]; exact hS.1.2.1
    obtain ⟨x, x1, x2, x3, x4, x5, x6, x7, x8, x9⟩ := (hS.2.2.2.2.2.2.2.1 i (by omega)).xy
    have l := kSh_pl hS (p := i) (by omega) (i := t) (by omega)
    refine sg_X0_lookFrom_88 hd hb ⟨fun z => absurd z (by rw [b12]; exact ltn (nI_lt (by omega) (by omega))), fun _ => ?_⟩
    rw [nI_1, nI_clamp (n := t + 1) (by omega), nI_clamp (n := t) (by omega), nI_clamp (n := i) (by omega)]
    have v5 : vp_in (nI i) 5 := vp_in_nI (by omega) (by decide)
    have v24 : vp_in (nI t) 24 := vp_in_nI (by omega) (by decide)
    refine ⟨vp_in_nI (by omega) (by decide), fun q3 e3 k3 => ⟨vp_in_nI (by omega) (by decide), fun q5 e5 k5 => ⟨v5, v24, v24, ?_⟩⟩⟩
    subst e3
    subst e5
    rw [(l3 t (by omega)).1, (l3 t (by omega)).2, l4 t (Nat.le_refl t) i (by omega)]
    refine sp_X2_sailed (d := d - 1) (by omega) hb (p := i) (q := kPort (kVw h0 b) i) (by omega) x3 (by rw [l1 (b + 4) (by omega) (by omega) (by omega)]; exact x8) l.2.1 l.2.2 ⟨v5, fun h12 e12 => ?_⟩
    rw [l1 (b + 1) (by omega) (by omega) (by omega), show h0 (b + 1) = kVw h0 b 1 from rfl, kSh_s hS (by omega) (by omega)] at e12
    rw [nI_1]
    refine ih (i + 1) h12 (by omega) ⟨l1.tr (kFs.u (by omega) e12), ?_, fun s hs => ?_, fun s hs p hp => ?_, fun p hp => ?_⟩
    · rw [e12, kU_ne (by omega), l2]
    · rw [e12, kU_ne (by omega), kU_ne (by omega)]
      exact l3 s hs
    · rw [e12, kU_ne (by omega)]
      exact l4 s hs p hp
    · rw [e12, kU_eq]
      by_cases e : p = i
      · subst e
        rw [pk_us]
      · rw [pk_un e]
        exact l5 p (by omega)
theorem lp_look43 (hd : 6 ≤ d) {b N n : Nat} {a : Int32} {h0 : kM} {g : Nat → Int32} {H f w : Nat} (hb : kSea b) (hS : kSRn (kVw h0 b) g n H f w) (hN : N ≤ 24) (hH : H ≤ 9999) (kk : ∀ h1, kLk b N n N N 0 h0 h1 → Q 0 h1) : ∀ (m t : Nat) (h1 : kM), t + m = N → kLk b N n t t 0 h0 h1 → at_X0_lookFrom_43 G d Q b a (nI t) h1 := by
  have hb' := id hb
  unfold kSea at hb'
  intro m
  induction m with
  | zero =>
    intro t h1 ht L
    have ht2 : t = N := by omega
    subst ht2
    exact sg_X0_lookFrom_43 hd hb ⟨fun _ => kk h1 L, fun z => absurd (by rw [L.2.1]; exact nI_le (Nat.le_refl _) (by omega)) z⟩
  | succ m ih =>
    intro t h1 ht L
    obtain ⟨l1, l2, l3, l4, l5⟩ := id L
    have ev := l1.eq hb
    have v24 : vp_in (nI t) 24 := vp_in_nI (by omega) (by decide)
    have ok1 := hS.ok.eq ev
    have e13 : h1 b 13 = kVw h0 b 0 13 := by rw [l1 b (by omega) (by omega) (by omega)]; rfl
    refine sg_X0_lookFrom_43 hd hb ⟨fun z => absurd z (by rw [l2]; exact ltn (nI_lt (by omega) (by omega))), fun _ => ⟨⟨by unfold vp_in; decide, ok1⟩, fun h3 q3 => ⟨v24, fun h5 e5 => ?_⟩⟩⟩
    have f5 : kFs b h1 h5 := (kFs.s1 q3).tr (kFs.u (by decide) e5)
    have ev5 := f5.eq hb
    refine ⟨⟨by unfold vp_in; decide, ok1.eq ev5⟩, fun h7 q7 => ⟨v24, fun h9 e9 => ?_⟩⟩
    have f9 : kFs b h5 h9 := (kFs.s1 q7).tr (kFs.u (by decide) e9)
    rw [kWn_eq ev, e13, nI_clamp (by omega)] at e5
    rw [kWn_eq ev5, kWn_eq ev, f5 b (by omega) (by omega) (by omega), e13, nI_clamp (by omega)] at e9
    have o9 : ∀ c, c ≠ 41 → c ≠ 42 → c ≠ b + 13 → c ≠ b + 16 → h9 c = h1 c := fun c x y z u => by rw [e9, kU_ne y, q7 c z u, e5, kU_ne x, q3 c z u]
    refine lp_look88 hd hb hS hN hH (by omega) (fun h10 L10 => ih (t + 1) h10 (by omega) L10) n 0 h9 (by omega) ⟨(l1.tr f5).tr f9, ?_, fun s hs => ?_, fun s hs p hp => ?_, fun p hp => absurd hp (Nat.not_lt_zero p)⟩
    · rw [o9 40 (by decide) (by decide) (by omega) (by omega), l2]
    · have c41 : h9 41 s = upd (h1 41) t (kWn (kVw h0 b) 0 (kVw h0 b 0 13 + nI t)) s := by rw [e9, kU_ne (by decide), q7 41 (by omega) (by omega), e5, kU_eq, q3 41 (by omega) (by omega)]
      have c42 : h9 42 s = upd (h1 42) t (kWn (kVw h0 b) 1 (kVw h0 b 0 13 + nI t)) s := by rw [e9, kU_eq, q7 42 (by omega) (by omega), e5, kU_ne (by decide), q3 42 (by omega) (by omega)]
      rw [c41, c42]
      by_cases e : s = t
      · subst e
        rw [pk_us, pk_us]
        exact ⟨rfl, rfl⟩
      · rw [pk_un e, pk_un e]
        exact l3 s (by omega)
    · rw [o9 (45 + s) (by omega) (by omega) (by omega) (by omega)]
      exact l4 s hs p hp
theorem lp_look13 (hd : 6 ≤ d) {b N n : Nat} {a : Int32} {h0 : kM} {g : Nat → Int32} {H f w : Nat} (hb : kSea b) (hS : kSRn (kVw h0 b) g n H f w) (hN : N ≤ 24) (hH : H ≤ 9999) (kk : ∀ h1, kLk b N n N N 0 h0 h1 → Q 0 h1) : ∀ (m i : Nat) (h1 : kM), i + m = n → kFs b h0 h1 → h1 40 5 = nI N → (∀ p, p < i → h1 45 p = kPl (kSh (kVw h0 b) p 0)) → at_X0_lookFrom_13 G d Q b a (nI i) h1 := by
  have hn := hS.1.1
  have hb' := id hb
  unfold kSea at hb'
  intro m
  induction m with
  | zero =>
    intro i h1 hi l1 l2 l5
    have hi2 : i = n := by omega
    subst hi2
    have b12 : h1 b 12 = nI i := by rw [l1 b (by omega) (by omega) (by omega)]; exact hS.1.2.1
    refine sg_X0_lookFrom_13 hd hb ⟨fun _ => ?_, fun z => absurd (by rw [b12]; exact nI_le (Nat.le_refl _) (by omega)) z⟩
    refine lp_look43 hd hb hS hN hH kk N 0 h1 (by omega) ⟨l1, l2, fun s hs => absurd hs (Nat.not_lt_zero s), fun s hs p hp => ?_, fun p hp => absurd hp (Nat.not_lt_zero p)⟩
    have hs0 : s = 0 := by omega
    subst hs0
    exact l5 p hp
  | succ m ih =>
    intro i h1 hi l1 l2 l5
    have b12 : h1 b 12 = nI n := by rw [l1 b (by omega) (by omega) (by omega)]; exact hS.1.2.1
    have v5 : vp_in (nI i) 5 := vp_in_nI (by omega) (by decide)
    have l := kSh_pl hS (p := i) (by omega) (i := 0) (by omega)
    have l3 : h0 (b + 3) i = kPl (kSh (kVw h0 b) i 0) := l.1
    refine sg_X0_lookFrom_13 hd hb ⟨fun z => absurd z (by rw [b12]; exact ltn (nI_lt (by omega) (by omega))), fun _ q2 e2 k2 => ⟨v5, v5, fun h5 e5 => ?_⟩⟩
    have e2 : q2 = 45 := e2
    subst e2
    rw [nI_clamp (by omega), l1 (b + 3) (by omega) (by omega) (by omega), l3] at e5
    rw [nI_1]
    refine ih (i + 1) h5 (by omega) (l1.tr (kFs.u (by decide) e5)) (by rw [e5, kU_ne (by decide), l2]) (fun p hp => ?_)
    rw [e5, kU_eq]
    by_cases e : p = i
    · subst e
      rw [pk_us]
    · rw [pk_un e]
      exact l5 p (by omega)
theorem sp_X0_lookFrom (hd : 6 ≤ d) {b N n : Nat} {g : Nat → Int32} {H f w : Nat} (hb : kSea b) (hS : kSRn (kVw h b) g n H f w) (hN : N ≤ 24) (hH : H ≤ 9999) (kk : ∀ h1, kLk b N n N N 0 h h1 → Q 0 h1) : Cal G d m_X0_lookFrom [.ref 40, .ref b, .int (nI N)] h Q := by
  refine cg_X0_lookFrom hd hb (fun h1 e1 => ?_)
  rw [kHeld_n hN] at e1
  exact lp_look13 hd hb hS hN hH kk n 0 h1 (by omega) (kFs.u (by decide) e1) (by rw [e1, kU_eq, pk_us]) (fun p hp => absurd hp (Nat.not_lt_zero p))
def at_X0_homeIn_4 (G : kG) (d : Nat) (Q : Int32 → kM → Prop) (q : Nat) (v1 : Int32) (v2 : Int32) (v3 : Int32) (h : kM) : Prop := Wp G d m_X0_homeIn (kEo G d m_X0_homeIn Q) 4 [.ref q, .int v1, .int v2, .int v3] [] h
theorem sg_X0_homeIn_0 {G : kG} {d : Nat} {Q : Int32 → kM → Prop} {q : Nat} {a1 : Int32} {h : kM} (hd : 2 ≤ d) (k_q : kd q = (1, 5)) (H :
    at_X0_homeIn_4 G d Q q a1 (0 : Int32) (0 : Int32) h) : Wp G d m_X0_homeIn (kEo G d m_X0_homeIn Q) 0 [.ref q, .int a1, .null, .null] [] h := by
  refine wp_iconst (0 : Int32) 1 dX0_homeIn_0 kiconst_0 rfl ?_
  refine wp_istore_n 2 dX0_homeIn_1 rfl (Nat.le_of_ble_eq_true rfl) rfl ?_
  refine wp_iconst (0 : Int32) 3 dX0_homeIn_2 kiconst_0 rfl ?_
  refine wp_istore_n 4 dX0_homeIn_3 rfl (Nat.le_of_ble_eq_true rfl) rfl ?_
  exact H

theorem cg_X0_homeIn {G : kG} {d : Nat} {Q : Int32 → kM → Prop} {q : Nat} {a1 : Int32} {h : kM} (hd : 2 ≤ d) (k_q : kd q = (1, 5)) (H :
    at_X0_homeIn_4 G d Q q a1 (0 : Int32) (0 : Int32) h) : Cal G d m_X0_homeIn [.ref q, .int a1] h Q :=
  Cal.of [.ref q, .int a1, .null, .null] (by decide +kernel) (Nat.le_of_ble_eq_true rfl) rfl (sg_X0_homeIn_0 hd k_q H)

theorem sg_X0_homeIn_4 {G : kG} {d : Nat} {Q : Int32 → kM → Prop} {q : Nat} {v1 : Int32} {v2 : Int32} {v3 : Int32} {h : kM} (hd : 2 ≤ d) (k_q : kd q = (1, 5)) (H :
    ((v1 ≤ v3 →
      Q v2 h
    ) ∧ (¬ (v1 ≤ v3) →
      (vp_in v3 5) ∧
      ((¬ ((h q (v3).toNatClampNeg) / 64) = (2 : Int32) →
        at_X0_homeIn_4 G d Q q v1 v2 (v3 + (1 : Int32)) h
      ) ∧ (((h q (v3).toNatClampNeg) / 64) = (2 : Int32) →
        at_X0_homeIn_4 G d Q q v1 (v2 + (1 : Int32)) (v3 + (1 : Int32)) h
      ))
    ))) : at_X0_homeIn_4 G d Q q v1 v2 v3 h := by
  show Wp G d m_X0_homeIn (kEo G d m_X0_homeIn Q) 4 [.ref q, .int v1, .int v2, .int v3] [] h
  refine wp_iload_n 5 dX0_homeIn_4 rfl rfl ?_
  refine wp_iload_n 6 dX0_homeIn_5 rfl rfl ?_
  refine wp_icmp_ge 28 9 dX0_homeIn_6 rfl rfl ⟨fun c1 => ?_, fun c1 => ?_⟩
  · replace H := H.1 c1
    refine wp_iload_n 29 dX0_homeIn_28 rfl rfl ?_
    exact wp_reti dX0_homeIn_29 rfl H
  · replace H := H.2 c1
    refine wp_aload_n 10 dX0_homeIn_9 rfl rfl ?_
    refine wp_iload_n 11 dX0_homeIn_10 rfl rfl ?_
    have c2 := H.1; replace H := H.2
    refine wp_iald 12 dX0_homeIn_11 rfl k_q c2 ?_
    refine wp_cN (d - 1) 1 [.int (h q (v3).toNatClampNeg)] [] 15 dX0_homeIn_12 rfl (lk_X0_113 rfl) (by omega) rfl rfl (Nat.le_of_ble_eq_true rfl) (sp_X7_stateOf (by omega)  ?_)
    refine wp_iconst (2 : Int32) 16 dX0_homeIn_15 kiconst_2 rfl ?_
    refine wp_icmp_ne 22 19 dX0_homeIn_16 rfl rfl ⟨fun c3 => ?_, fun c3 => ?_⟩
    · replace H := H.1 c3
      refine wp_iinc (1 : Int32) 25 dX0_homeIn_22 rfl rfl kiconst_1 (Nat.le_of_ble_eq_true rfl) rfl ?_
      refine wp_goto 4 dX0_homeIn_25 rfl ?_
      exact H
    · replace H := H.2 c3
      refine wp_iinc (1 : Int32) 22 dX0_homeIn_19 rfl rfl kiconst_1 (Nat.le_of_ble_eq_true rfl) rfl ?_
      refine wp_iinc (1 : Int32) 25 dX0_homeIn_22 rfl rfl kiconst_1 (Nat.le_of_ble_eq_true rfl) rfl ?_
      refine wp_goto 4 dX0_homeIn_25 rfl ?_
      exact H

theorem sp_X0_homeIn (hd : 2 ≤ d) {q n : Nat} (kq : kd q = (1, 5)) {W : kM} (hn : n ≤ 5) (hW : ∀ p, p < n → ∃ x : Nat × Nat, x.1 < 64 ∧ x.2 < 3 ∧ h q p = kPl x ∧ kXy (W 3 p) = x) (k : Q (kCn W 2 n) h) : Cal G d m_X0_homeIn [.ref q, .int (nI n)] h Q := by
  have lp : ∀ (m i : Nat), i + m = n → at_X0_homeIn_4 G d Q q (nI n) (kCn W 2 i) (nI i) h := by
    intro m
    induction m with
    | zero =>
      intro i hi
      have hi2 : i = n := by omega
      subst hi2
      exact sg_X0_homeIn_4 hd kq ⟨fun _ => k, fun z => absurd (nI_le (Nat.le_refl _) (by omega)) z⟩
    | succ m ih =>
      intro i hi
      obtain ⟨x, x1, x2, x3, x4⟩ := hW i (by omega)
      have st1 := ih (i + 1) (by omega)
      have e1 : kCn W 2 (i + 1) = kCn W 2 i + (if nI (kXy (W 3 i)).2 = 2 then 1 else 0) := rfl
      rw [e1, x4] at st1
      refine sg_X0_homeIn_4 hd kq ⟨fun z => absurd z (ltn (nI_lt (by omega) (by omega))), fun _ => ⟨vp_in_nI (by omega) (by decide), ?_⟩⟩
      rw [nI_clamp (by omega), x3, kPl_st x1 x2, nI_1]
      refine ⟨fun z => ?_, fun z => ?_⟩
      · rw [if_neg z, Int32.add_zero] at st1
        exact st1
      · rw [if_pos z] at st1
        exact st1
  exact cg_X0_homeIn hd kq (lp n 0 (by omega))
def at_X0_foresee_2 (G : kG) (d : Nat) (Q : Int32 → kM → Prop) (b : Nat) (v2 : Int32) (v3 : Int32) (h : kM) : Prop := Wp G d m_X0_foresee (kEo G d m_X0_foresee Q) 2 [.ref 40, .ref b, .int v2, .int v3] [] h
theorem sg_X0_foresee_0 {G : kG} {d : Nat} {Q : Int32 → kM → Prop} {b : Nat} {a1 : Int32} {h : kM} (hd : 5 ≤ d) (k_b : kSea b) (H :
    at_X0_foresee_2 G d Q b a1 (0 : Int32) h) : Wp G d m_X0_foresee (kEo G d m_X0_foresee Q) 0 [.ref 40, .ref b, .int a1, .null] [] h := by
  refine wp_iconst (0 : Int32) 1 dX0_foresee_0 kiconst_0 rfl ?_
  refine wp_istore_n 2 dX0_foresee_1 rfl (Nat.le_of_ble_eq_true rfl) rfl ?_
  exact H

theorem cg_X0_foresee {G : kG} {d : Nat} {Q : Int32 → kM → Prop} {b : Nat} {a1 : Int32} {h : kM} (hd : 5 ≤ d) (k_b : kSea b) (H :
    at_X0_foresee_2 G d Q b a1 (0 : Int32) h) : Cal G d m_X0_foresee [.ref 40, .ref b, .int a1] h Q :=
  Cal.of [.ref 40, .ref b, .int a1, .null] (by decide +kernel) (Nat.le_of_ble_eq_true rfl) rfl (sg_X0_foresee_0 hd k_b H)

theorem sg_X0_foresee_2 {G : kG} {d : Nat} {Q : Int32 → kM → Prop} {b : Nat} {v2 : Int32} {v3 : Int32} {h : kM} (hd : 5 ≤ d) (k_b : kSea b) (H :
    (((h 40 5) ≤ v3 →
      Q 0 h
    ) ∧ (¬ ((h 40 5) ≤ v3) →
      (vp_in v2 15 ∧ kTxtOk h (b + 11)) ∧
      ∀ (h3 : kM), kS1 b h h3 →
      (vp_in v3 24) ∧
      ∀ h5 : kM, h5 = kU h3 43 (v3).toNatClampNeg (kFo (kVw h b) (v2).toNatClampNeg v3) →
      at_X0_foresee_2 G d Q b v2 (v3 + (1 : Int32)) h5
    ))) : at_X0_foresee_2 G d Q b v2 v3 h := by
  show Wp G d m_X0_foresee (kEo G d m_X0_foresee Q) 2 [.ref 40, .ref b, .int v2, .int v3] [] h
  refine wp_iload_n 3 dX0_foresee_2 rfl rfl ?_
  refine wp_aload_n 4 dX0_foresee_3 rfl rfl ?_
  refine wp_getI 7 dX0_foresee_4 rfl fl_X0_37 kd_40 rfl ?_
  refine wp_icmp_ge 28 10 dX0_foresee_7 rfl rfl ⟨fun c1 => ?_, fun c1 => ?_⟩
  · replace H := H.1 c1
    exact wp_retv dX0_foresee_28 rfl H
  · replace H := H.2 c1
    refine wp_aload_n 11 dX0_foresee_10 rfl rfl ?_
    refine wp_getR 3 43 14 dX0_foresee_11 rfl fl_X0_18 kd_40 rfl rfl rfl rfl ?_
    refine wp_iload_n 15 dX0_foresee_14 rfl rfl ?_
    refine wp_aload_n 16 dX0_foresee_15 rfl rfl ?_
    refine wp_iload_n 17 dX0_foresee_16 rfl rfl ?_
    refine wp_iload_n 18 dX0_foresee_17 rfl rfl ?_
    have c2 := H.1; replace H := H.2
    refine wp_cV (d - 1) 2 [.int v2, .int v3] [.int v3, .ref 43] 21 dX0_foresee_18 rfl (lk_X0_104 rfl) (by omega) (kSea_0 k_b) rfl rfl rfl (Nat.le_of_ble_eq_true rfl) (sp_X2_force (by omega) k_b c2 (fun h3 eh3 => ?_))
    replace H := H h3 eh3
    have c4 := H.1; replace H := H.2
    refine wp_iast 22 dX0_foresee_21 rfl kd_43 c4 ?_
    refine wp_nm (fun h5 eh5 => ?_)
    replace H := H h5 eh5
    refine wp_iinc (1 : Int32) 25 dX0_foresee_22 rfl rfl kiconst_1 (Nat.le_of_ble_eq_true rfl) rfl ?_
    refine wp_goto 2 dX0_foresee_25 rfl ?_
    exact H

theorem sp_X0_foresee (hd : 5 ≤ d) {b N k : Nat} (hb : kSea b) (hN : N ≤ 24) (h5 : h 40 5 = nI N) (hk : k < 15) (ht : kTxtOk h (b + 11)) (kk : ∀ h1, (∀ a, a ≠ 43 → a ≠ b + 13 → a ≠ b + 16 → h1 a = h a) → (∀ t, t < N → h1 43 t = kFo (kVw h b) k (nI t)) → Q 0 h1) : Cal G d m_X0_foresee [.ref 40, .ref b, .int (nI k)] h Q := by
  have hb' := id hb
  unfold kSea at hb'
  have lp : ∀ (m i : Nat) (h1 : kM), i + m = N → (∀ a, a ≠ 43 → a ≠ b + 13 → a ≠ b + 16 → h1 a = h a) → (∀ t, t < i → h1 43 t = kFo (kVw h b) k (nI t)) → at_X0_foresee_2 G d Q b (nI k) (nI i) h1 := by
    intro m
    induction m with
    | zero =>
      intro i h1 hi ho al
      have hi2 : i = N := by omega
      subst hi2
      have x5 : h1 40 5 = nI i := by rw [ho 40 (by decide) (by omega) (by omega), h5]
      exact sg_X0_foresee_2 hd hb ⟨fun _ => kk h1 ho al, fun z => absurd (by rw [x5]; exact nI_le (Nat.le_refl _) (by omega)) z⟩
    | succ m ih =>
      intro i h1 hi ho al
      have x5 : h1 40 5 = nI N := by rw [ho 40 (by decide) (by omega) (by omega), h5]
      have q1 : kFs b h h1 := fun a x y z => ho a (by omega) y z
      have t1 : kTxtOk h1 (b + 11) := by
        unfold kTxtOk at ht ⊢
        rw [ho (b + 11) (by omega) (by omega) (by omega), ho (b + 11 + 1) (by omega) (by omega) (by omega)]
        exact ht
      refine sg_X0_foresee_2 hd hb ⟨fun z => absurd z (by rw [x5]; exact ltn (nI_lt (by omega) (by omega))), fun _ => ⟨⟨vp_in_nI hk (by decide), t1⟩, fun h3 q3 => ⟨vp_in_nI (by omega) (by decide), fun h5 e5 => ?_⟩⟩⟩
      have ef : ∀ a, kFo (kVw h1 b) k a = kFo (kVw h b) k a := fun a => by
        have ev := q1.eq hb
        unfold kFo
        rw [ev 11 (by decide) (by decide), ev 12 (by decide) (by decide), ev 5 (by decide) (by decide), ev 6 (by decide) (by decide), ev 7 (by decide) (by decide)]
      rw [nI_clamp (n := i) (by omega), nI_clamp (n := k) (by omega), ef] at e5
      rw [nI_1]
      refine ih (i + 1) h5 (by omega) (fun a x y z => by rw [e5, kU_ne x, q3 a y z, ho a x y z]) (fun t ht2 => ?_)
      rw [e5, kU_eq]
      by_cases e : t = i
      · subst e
        rw [pk_us]
      · rw [pk_un e, q3 43 (by omega) (by omega)]
        exact al t (by omega)
  exact cg_X0_foresee hd hb (lp N 0 h (by omega) (fun _ _ _ _ => rfl) (fun t ht => absurd ht (Nat.not_lt_zero t)))
def at_X0_sailOn_27 (G : kG) (d : Nat) (Q : Int32 → kM → Prop) (b : Nat) (v2 : Int32) (v3 : Int32) (v4 : Int32) (v5 : Int32) (v6 : Int32) (h : kM) : Prop := Wp G d m_X0_sailOn (kEo G d m_X0_sailOn Q) 27 [.ref 40, .ref b, .int v2, .int v3, .int v4, .int v5, .int v6, .null, .null, .null] [] h
def at_X0_sailOn_50 (G : kG) (d : Nat) (Q : Int32 → kM → Prop) (b : Nat) (v2 : Int32) (v3 : Int32) (v4 : Int32) (v5 : Int32) (v6 : Int32) (v7 : Int32) (v8 : Int32) (h : kM) : Prop := Wp G d m_X0_sailOn (kEo G d m_X0_sailOn Q) 50 [.ref 40, .ref b, .int v2, .int v3, .int v4, .int v5, .int v6, .int v7, .int v8, .null] [] h
theorem sg_X0_sailOn_0 {G : kG} {d : Nat} {Q : Int32 → kM → Prop} {b : Nat} {a1 : Int32} {a2 : Int32} {h : kM} (hd : 4 ≤ d) (k_b : kSea b) (H :
    (vp_in a1 15) ∧
    (vp_in a1 15) ∧
    at_X0_sailOn_27 G d Q b a1 a2 (kShare (h (b + 7) (a1).toNatClampNeg) (0 : Int32)) (kShare (h (b + 7) (a1).toNatClampNeg) (1 : Int32)) (0 : Int32) h) : Wp G d m_X0_sailOn (kEo G d m_X0_sailOn Q) 0 [.ref 40, .ref b, .int a1, .int a2, .null, .null, .null, .null, .null, .null] [] h := by
  refine wp_aload_n 1 dX0_sailOn_0 rfl rfl ?_
  refine wp_getR 7 (b + 7) 4 dX0_sailOn_1 rfl fl_X0_107 (kSea_0 k_b) rfl rfl rfl rfl ?_
  refine wp_iload_n 5 dX0_sailOn_4 rfl rfl ?_
  have c1 := H.1; replace H := H.2
  refine wp_iald 6 dX0_sailOn_5 rfl (kSea_7 k_b) c1 ?_
  refine wp_iconst (0 : Int32) 7 dX0_sailOn_6 kiconst_0 rfl ?_
  refine wp_cN (d - 1) 2 [.int (h (b + 7) (a1).toNatClampNeg), .int (0 : Int32)] [] 10 dX0_sailOn_7 rfl (lk_X0_110 rfl) (by omega) rfl rfl (Nat.le_of_ble_eq_true rfl) (sp_X7_share (by omega)  ?_)
  refine wp_istore 12 dX0_sailOn_10 rfl (Nat.le_of_ble_eq_true rfl) rfl ?_
  refine wp_aload_n 13 dX0_sailOn_12 rfl rfl ?_
  refine wp_getR 7 (b + 7) 16 dX0_sailOn_13 rfl fl_X0_107 (kSea_0 k_b) rfl rfl rfl rfl ?_
  refine wp_iload_n 17 dX0_sailOn_16 rfl rfl ?_
  have c2 := H.1; replace H := H.2
  refine wp_iald 18 dX0_sailOn_17 rfl (kSea_7 k_b) c2 ?_
  refine wp_iconst (1 : Int32) 19 dX0_sailOn_18 kiconst_1 rfl ?_
  refine wp_cN (d - 1) 2 [.int (h (b + 7) (a1).toNatClampNeg), .int (1 : Int32)] [] 22 dX0_sailOn_19 rfl (lk_X0_110 rfl) (by omega) rfl rfl (Nat.le_of_ble_eq_true rfl) (sp_X7_share (by omega)  ?_)
  refine wp_istore 24 dX0_sailOn_22 rfl (Nat.le_of_ble_eq_true rfl) rfl ?_
  refine wp_iconst (0 : Int32) 25 dX0_sailOn_24 kiconst_0 rfl ?_
  refine wp_istore 27 dX0_sailOn_25 rfl (Nat.le_of_ble_eq_true rfl) rfl ?_
  exact H

theorem cg_X0_sailOn {G : kG} {d : Nat} {Q : Int32 → kM → Prop} {b : Nat} {a1 : Int32} {a2 : Int32} {h : kM} (hd : 4 ≤ d) (k_b : kSea b) (H :
    (vp_in a1 15) ∧
    (vp_in a1 15) ∧
    at_X0_sailOn_27 G d Q b a1 a2 (kShare (h (b + 7) (a1).toNatClampNeg) (0 : Int32)) (kShare (h (b + 7) (a1).toNatClampNeg) (1 : Int32)) (0 : Int32) h) : Cal G d m_X0_sailOn [.ref 40, .ref b, .int a1, .int a2] h Q :=
  Cal.of [.ref 40, .ref b, .int a1, .int a2, .null, .null, .null, .null, .null, .null] (by decide +kernel) (Nat.le_of_ble_eq_true rfl) rfl (sg_X0_sailOn_0 hd k_b H)

theorem sg_X0_sailOn_27 {G : kG} {d : Nat} {Q : Int32 → kM → Prop} {b : Nat} {v2 : Int32} {v3 : Int32} {v4 : Int32} {v5 : Int32} {v6 : Int32} {h : kM} (hd : 4 ≤ d) (k_b : kSea b) (H :
    (((h b 12) ≤ v6 →
      Q 0 h
    ) ∧ (¬ ((h b 12) ≤ v6) →
      (vp_in v3 25) ∧
      ∀ q3 : Nat, q3 = 45 + (v3).toNatClampNeg → kd q3 = (1, 5) →
      (vp_in v6 5) ∧
      at_X0_sailOn_50 G d Q b v2 v3 v4 v5 v6 (h q3 (v6).toNatClampNeg) v3 h
    ))) : at_X0_sailOn_27 G d Q b v2 v3 v4 v5 v6 h := by
  show Wp G d m_X0_sailOn (kEo G d m_X0_sailOn Q) 27 [.ref 40, .ref b, .int v2, .int v3, .int v4, .int v5, .int v6, .null, .null, .null] [] h
  refine wp_iload 29 dX0_sailOn_27 rfl rfl ?_
  refine wp_aload_n 30 dX0_sailOn_29 rfl rfl ?_
  refine wp_getI 33 dX0_sailOn_30 rfl fl_X0_40 (kSea_0 k_b) rfl ?_
  refine wp_icmp_ge 135 36 dX0_sailOn_33 rfl rfl ⟨fun c1 => ?_, fun c1 => ?_⟩
  · replace H := H.1 c1
    exact wp_retv dX0_sailOn_135 rfl H
  · replace H := H.2 c1
    refine wp_aload_n 37 dX0_sailOn_36 rfl rfl ?_
    refine wp_getR 4 44 40 dX0_sailOn_37 rfl fl_X0_23 kd_40 rfl rfl rfl rfl ?_
    refine wp_iload_n 41 dX0_sailOn_40 rfl rfl ?_
    have c2 := H.1; replace H := H.2
    refine wp_course 42 dX0_sailOn_41 rfl c2 (fun q3 eq3 k_q3 => ?_)
    replace H := H q3 eq3 k_q3
    refine wp_iload 44 dX0_sailOn_42 rfl rfl ?_
    have c4 := H.1; replace H := H.2
    refine wp_iald 45 dX0_sailOn_44 rfl k_q3 c4 ?_
    refine wp_istore 47 dX0_sailOn_45 rfl (Nat.le_of_ble_eq_true rfl) rfl ?_
    refine wp_iload_n 48 dX0_sailOn_47 rfl rfl ?_
    refine wp_istore 50 dX0_sailOn_48 rfl (Nat.le_of_ble_eq_true rfl) rfl ?_
    exact H

theorem sg_X0_sailOn_50 {G : kG} {d : Nat} {Q : Int32 → kM → Prop} {b : Nat} {v2 : Int32} {v3 : Int32} {v4 : Int32} {v5 : Int32} {v6 : Int32} {v7 : Int32} {v8 : Int32} {h : kM} (hd : 4 ≤ d) (k_b : kSea b) (H :
    (((h 40 5) ≤ v8 →
      (vp_in v6 5) ∧
      ∀ h3 : kM, h3 = kU h 70 (v6).toNatClampNeg v7 →
      at_X0_sailOn_27 G d Q b v2 v3 v4 v5 (v6 + (1 : Int32)) h3
    ) ∧ (¬ ((h 40 5) ≤ v8) →
      ((¬ (v7 / 64) = 0 →
        (vp_in v6 5) ∧
        ∀ h6 : kM, h6 = kU h 70 (v6).toNatClampNeg v7 →
        at_X0_sailOn_27 G d Q b v2 v3 v4 v5 (v6 + (1 : Int32)) h6
      ) ∧ ((v7 / 64) = 0 →
        (vp_in (v8 - v3) 24) ∧
        (vp_in v8 24) ∧
        (vp_in v8 24) ∧
        Cal G (d - 1) m_X2_sailed [.ref b, .int v6, .int v7, .int ((h 41 (v8).toNatClampNeg) + (v4 * (h 43 ((v8 - v3)).toNatClampNeg))), .int ((h 42 (v8).toNatClampNeg) + (v5 * (h 43 ((v8 - v3)).toNatClampNeg)))] h (fun x10 h11 =>
          at_X0_sailOn_50 G d Q b v2 v3 v4 v5 v6 x10 (v8 + (1 : Int32)) h11
        )
      ))
    ))) : at_X0_sailOn_50 G d Q b v2 v3 v4 v5 v6 v7 v8 h := by
  show Wp G d m_X0_sailOn (kEo G d m_X0_sailOn Q) 50 [.ref 40, .ref b, .int v2, .int v3, .int v4, .int v5, .int v6, .int v7, .int v8, .null] [] h
  refine wp_iload 52 dX0_sailOn_50 rfl rfl ?_
  refine wp_aload_n 53 dX0_sailOn_52 rfl rfl ?_
  refine wp_getI 56 dX0_sailOn_53 rfl fl_X0_37 kd_40 rfl ?_
  refine wp_icmp_ge 120 59 dX0_sailOn_56 rfl rfl ⟨fun c1 => ?_, fun c1 => ?_⟩
  · replace H := H.1 c1
    refine wp_aload_n 121 dX0_sailOn_120 rfl rfl ?_
    refine wp_getR 30 70 124 dX0_sailOn_121 rfl fl_X0_26 kd_40 rfl rfl rfl rfl ?_
    refine wp_iload 126 dX0_sailOn_124 rfl rfl ?_
    refine wp_iload 128 dX0_sailOn_126 rfl rfl ?_
    have c2 := H.1; replace H := H.2
    refine wp_iast 129 dX0_sailOn_128 rfl kd_70 c2 ?_
    refine wp_nm (fun h3 eh3 => ?_)
    replace H := H h3 eh3
    refine wp_iinc (1 : Int32) 132 dX0_sailOn_129 rfl rfl kiconst_1 (Nat.le_of_ble_eq_true rfl) rfl ?_
    refine wp_goto 27 dX0_sailOn_132 rfl ?_
    refine wp_drop 7 ?_
    refine wp_drop 8 ?_
    exact H
  · replace H := H.2 c1
    refine wp_iload 61 dX0_sailOn_59 rfl rfl ?_
    refine wp_cN (d - 1) 1 [.int v7] [] 64 dX0_sailOn_61 rfl (lk_X0_113 rfl) (by omega) rfl rfl (Nat.le_of_ble_eq_true rfl) (sp_X7_stateOf (by omega)  ?_)
    refine wp_if_ne 120 67 dX0_sailOn_64 rfl rfl ⟨fun c4 => ?_, fun c4 => ?_⟩
    · replace H := H.1 c4
      refine wp_aload_n 121 dX0_sailOn_120 rfl rfl ?_
      refine wp_getR 30 70 124 dX0_sailOn_121 rfl fl_X0_26 kd_40 rfl rfl rfl rfl ?_
      refine wp_iload 126 dX0_sailOn_124 rfl rfl ?_
      refine wp_iload 128 dX0_sailOn_126 rfl rfl ?_
      have c5 := H.1; replace H := H.2
      refine wp_iast 129 dX0_sailOn_128 rfl kd_70 c5 ?_
      refine wp_nm (fun h6 eh6 => ?_)
      replace H := H h6 eh6
      refine wp_iinc (1 : Int32) 132 dX0_sailOn_129 rfl rfl kiconst_1 (Nat.le_of_ble_eq_true rfl) rfl ?_
      refine wp_goto 27 dX0_sailOn_132 rfl ?_
      refine wp_drop 7 ?_
      refine wp_drop 8 ?_
      exact H
    · replace H := H.2 c4
      refine wp_aload_n 68 dX0_sailOn_67 rfl rfl ?_
      refine wp_getR 3 43 71 dX0_sailOn_68 rfl fl_X0_18 kd_40 rfl rfl rfl rfl ?_
      refine wp_iload 73 dX0_sailOn_71 rfl rfl ?_
      refine wp_iload_n 74 dX0_sailOn_73 rfl rfl ?_
      refine wp_isub 75 dX0_sailOn_74 rfl ?_
      have c7 := H.1; replace H := H.2
      refine wp_iald 76 dX0_sailOn_75 rfl kd_43 c7 ?_
      refine wp_istore 78 dX0_sailOn_76 rfl (Nat.le_of_ble_eq_true rfl) rfl ?_
      refine wp_aload_n 79 dX0_sailOn_78 rfl rfl ?_
      refine wp_iload 81 dX0_sailOn_79 rfl rfl ?_
      refine wp_iload 83 dX0_sailOn_81 rfl rfl ?_
      refine wp_aload_n 84 dX0_sailOn_83 rfl rfl ?_
      refine wp_getR 1 41 87 dX0_sailOn_84 rfl fl_X0_9 kd_40 rfl rfl rfl rfl ?_
      refine wp_iload 89 dX0_sailOn_87 rfl rfl ?_
      have c8 := H.1; replace H := H.2
      refine wp_iald 90 dX0_sailOn_89 rfl kd_41 c8 ?_
      refine wp_iload 92 dX0_sailOn_90 rfl rfl ?_
      refine wp_iload 94 dX0_sailOn_92 rfl rfl ?_
      refine wp_imul 95 dX0_sailOn_94 rfl ?_
      refine wp_iadd 96 dX0_sailOn_95 rfl ?_
      refine wp_aload_n 97 dX0_sailOn_96 rfl rfl ?_
      refine wp_getR 2 42 100 dX0_sailOn_97 rfl fl_X0_15 kd_40 rfl rfl rfl rfl ?_
      refine wp_iload 102 dX0_sailOn_100 rfl rfl ?_
      have c9 := H.1; replace H := H.2
      refine wp_iald 103 dX0_sailOn_102 rfl kd_42 c9 ?_
      refine wp_iload 105 dX0_sailOn_103 rfl rfl ?_
      refine wp_iload 107 dX0_sailOn_105 rfl rfl ?_
      refine wp_imul 108 dX0_sailOn_107 rfl ?_
      refine wp_iadd 109 dX0_sailOn_108 rfl ?_
      refine wp_cV (d - 1) 4 [.int v6, .int v7, .int ((h 41 (v8).toNatClampNeg) + (v4 * (h 43 ((v8 - v3)).toNatClampNeg))), .int ((h 42 (v8).toNatClampNeg) + (v5 * (h 43 ((v8 - v3)).toNatClampNeg)))] [] 112 dX0_sailOn_109 rfl (lk_X0_100 rfl) (by omega) (kSea_0 k_b) rfl rfl rfl (Nat.le_of_ble_eq_true rfl) (H.mono (fun x10 h11 H => ?_))
      refine wp_istore 114 dX0_sailOn_112 rfl (Nat.le_of_ble_eq_true rfl) rfl ?_
      refine wp_iinc (1 : Int32) 117 dX0_sailOn_114 rfl rfl kiconst_1 (Nat.le_of_ble_eq_true rfl) rfl ?_
      refine wp_goto 50 dX0_sailOn_117 rfl ?_
      refine wp_drop 9 ?_
      exact H

theorem lp_sailOn50 (hd : 4 ≤ d) {b N n k i p : Nat} {h0 : kM} {g : Nat → Int32} {H f w : Nat} (hb : kSea b) (hS : kSRn (kVw h0 b) g n H f w) (hN : N ≤ 24) (hH : H ≤ 9999) (hk : k < 3 * n) (ht : kVw h0 b 8 k = -1) (hp : p < n) (L : kLk b N n N N 0 h0 h) (F : ∀ t, t < N → h 43 t = kFo (kVw h0 b) k (nI t)) (kk : ∀ h1, h1 = kU h 70 p (kPl (kSh (kUp (kVw h0 b) i k) p (N - i))) → at_X0_sailOn_27 G d Q b (nI k) (nI i) (kShare (kVw h0 b 7 k) 0) (kShare (kVw h0 b 7 k) 1) (nI (p + 1)) h1) : ∀ (m t : Nat), t + m = N → i ≤ t → at_X0_sailOn_50 G d Q b (nI k) (nI i) (kShare (kVw h0 b 7 k) 0) (kShare (kVw h0 b 7 k) 1) (nI p) (kPl (kSh (kUp (kVw h0 b) i k) p (t - i))) (nI t) h := by
  have hn := hS.1.1
  have hb' := id hb
  unfold kSea at hb'
  obtain ⟨l1, l2, l3, l4, l5⟩ := L
  have v5 : vp_in (nI p) 5 := vp_in_nI (by omega) (by decide)
  have hcl : (nI p).toNatClampNeg = p := nI_clamp (by omega)
  obtain ⟨x, x1, x2, x3, x4, x5, x6, x7, x8, x9⟩ := (hS.2.2.2.2.2.2.2.1 p hp).xy
  intro m
  induction m with
  | zero =>
    intro t htN hit
    have ht2 : t = N := by omega
    subst ht2
    refine sg_X0_sailOn_50 hd hb ⟨fun _ => ⟨v5, fun h3 e3 => ?_⟩, fun z => absurd (by rw [l2]; exact nI_le (Nat.le_refl _) (by omega)) z⟩
    rw [hcl] at e3
    rw [nI_1]
    exact kk h3 e3
  | succ m ih =>
    intro t htN hit
    obtain ⟨gU, hU⟩ := hS.up (i := i) (k := k) (by omega) hk
    have l := kSh_pl hU hp (i := t - i) (by omega)
    refine sg_X0_sailOn_50 hd hb ⟨fun z => absurd z (by rw [l2]; exact ltn (nI_lt (by omega) (by omega))), fun _ => ?_⟩
    rw [kPl_st l.2.1 l.2.2, hcl, pk_sub hit, nI_clamp (n := t) (by omega), nI_clamp (n := t - i) (by omega)]
    refine ⟨fun z => ⟨v5, fun h6 e6 => ?_⟩, fun z => ⟨vp_in_nI (by omega) (by decide), vp_in_nI (by omega) (by decide), vp_in_nI (by omega) (by decide), ?_⟩⟩
    · have hx : ¬ (kSh (kUp (kVw h0 b) i k) p (t - i)).2 = 0 := fun e => z (by rw [e]; rfl)
      have st := kSh_stay hU hp hx (N - t) (by omega)
      rw [show t - i + (N - t) = N - i by omega] at st
      rw [nI_1]
      exact kk h6 (by rw [e6, st])
    · rw [(l3 t (by omega)).1, (l3 t (by omega)).2, F (t - i) (by omega)]
      refine sp_X2_sailed (d := d - 1) (by omega) hb (p := p) (q := kPort (kVw h0 b) p) (by omega) x3 (by rw [l1 (b + 4) (by omega) (by omega) (by omega)]; exact x8) l.2.1 l.2.2 ?_
      have e := kSh_ups (i := i) (s := t - i) hS (by omega) hk ht hp
      rw [show i + (t - i) = t by omega] at e
      rw [l1 (b + 1) (by omega) (by omega) (by omega), show h0 (b + 1) = kVw h0 b 1 from rfl, e, show t - i + 1 = t + 1 - i by omega, nI_1]
      exact ih (t + 1) (by omega) (by omega)
theorem sp_X0_sailOn (hd : 4 ≤ d) {b N n k i : Nat} {h0 : kM} {g : Nat → Int32} {H f w : Nat} (hb : kSea b) (hS : kSRn (kVw h0 b) g n H f w) (hN : N ≤ 24) (hH : H ≤ 9999) (hk : k < 3 * n) (ht : kVw h0 b 8 k = -1) (hi : i ≤ N) (L : kLk b N n N N 0 h0 h) (F : ∀ t, t < N → h 43 t = kFo (kVw h0 b) k (nI t)) (kk : ∀ h1, (∀ a, a ≠ 70 → h1 a = h a) → (∀ p, p < n → h1 70 p = kPl (kSh (kUp (kVw h0 b) i k) p (N - i))) → Q 0 h1) : Cal G d m_X0_sailOn [.ref 40, .ref b, .int (nI k), .int (nI i)] h Q := by
  have hn := hS.1.1
  have hb' := id hb
  unfold kSea at hb'
  have v15 : vp_in (nI k) 15 := vp_in_nI (by omega) (by decide)
  have lp : ∀ (m j : Nat) (h1 : kM), j + m = n → (∀ a, a ≠ 70 → h1 a = h a) → (∀ p, p < j → h1 70 p = kPl (kSh (kUp (kVw h0 b) i k) p (N - i))) → at_X0_sailOn_27 G d Q b (nI k) (nI i) (kShare (kVw h0 b 7 k) 0) (kShare (kVw h0 b 7 k) 1) (nI j) h1 := by
    intro m
    induction m with
    | zero =>
      intro j h1 hj ho al
      have hj2 : j = n := by omega
      subst hj2
      have b12 : h1 b 12 = nI j := by rw [ho b (by omega), L.1 b (by omega) (by omega) (by omega)]; exact hS.1.2.1
      exact sg_X0_sailOn_27 hd hb ⟨fun _ => kk h1 ho al, fun z => absurd (by rw [b12]; exact nI_le (Nat.le_refl _) (by omega)) z⟩
    | succ m ih =>
      intro j h1 hj ho al
      have b12 : h1 b 12 = nI n := by rw [ho b (by omega), L.1 b (by omega) (by omega) (by omega)]; exact hS.1.2.1
      have L1 : kLk b N n N N 0 h0 h1 := L.keep hb (Or.inr ⟨hN, rfl⟩) (fun a _ _ x _ _ => ho a x) (by rw [ho 40 (by decide)])
      refine sg_X0_sailOn_27 hd hb ⟨fun z => absurd z (by rw [b12]; exact ltn (nI_lt (by omega) (by omega))), fun _ => ⟨vp_in_nI (by omega) (by decide), fun q3 e3 k3 => ⟨vp_in_nI (by omega) (by decide), ?_⟩⟩⟩
      rw [nI_clamp (by omega)] at e3
      subst e3
      have c := L1.2.2.2.1 i hi j (by omega)
      rw [nI_clamp (by omega), c, ← kSh_up0 (k := k)]
      have r := lp_sailOn50 (G := G) (Q := Q) (h := h1) (p := j) (i := i) hd hb hS hN hH hk ht (by omega) L1 (fun t ht => by rw [ho 43 (by decide)]; exact F t ht) (fun h2 e2 => ih (j + 1) h2 (by omega) (fun a x => by rw [e2, kU_ne x, ho a x]) (fun p hp => by
        rw [e2, kU_eq]
        by_cases e : p = j
        · subst e
          rw [pk_us]
        · rw [pk_un e]
          exact al p (by omega))) (N - i) i (by omega) (Nat.le_refl i)
      rw [Nat.sub_self] at r
      exact r
  refine cg_X0_sailOn hd hb ⟨v15, v15, ?_⟩
  rw [nI_clamp (by omega), L.1 (b + 7) (by omega) (by omega) (by omega)]
  exact lp n 0 h (by omega) (fun _ _ => rfl) (fun p hp => absurd hp (Nat.not_lt_zero p))
end Fore

