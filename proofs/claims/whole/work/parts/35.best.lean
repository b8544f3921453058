/-! bestKnot -/
section Best
variable {G : kG} {d : Nat} {Q : Int32 → kM → Prop} {h : kM}
theorem kFo_e {v v' : kM} (e : kVEq v v') (k : Nat) (a : Int32) : kFo v' k a = kFo v k a := by
  unfold kFo
  rw [e 11 (by decide) (by decide), e 12 (by decide) (by decide), e 5 (by decide) (by decide), e 6 (by decide) (by decide), e 7 (by decide) (by decide)]
abbrev kMk (v : kM) (k : Nat) : Prop := v 8 k = -1 ∧ kDay (v 0 13) ∧ ¬ nI (kXy (v 3 (k / 3))).2 = 1
/-- ships that are home, the knot k being loosed now -/
def kHm (v : kM) (N n k : Nat) : Int32 := kCn (kHrN (kLo v k) N) 2 n
/-- the best knot of those below k, and how many ships are home then -/
def kBf (v : kM) (N n : Nat) : Nat → Int32 × Int32
  | 0 => (-1, kCn (kHrN v N) 2 n)
  | k + 1 => if kMk v k then (if kHm v N n k ≤ (kBf v N n k).2 then kBf v N n k else (nI k, kHm v N n k)) else kBf v N n k
theorem kBf_n {v : kM} {N n k : Nat} (hm : ¬ kMk v k) : kBf v N n (k + 1) = kBf v N n k := if_neg hm
theorem kBf_l {v : kM} {N n k : Nat} (hm : kMk v k) (hl : kHm v N n k ≤ (kBf v N n k).2) : kBf v N n (k + 1) = kBf v N n k := by
  show (if kMk v k then _ else _) = _
  rw [if_pos hm, if_pos hl]
theorem kBf_g {v : kM} {N n k : Nat} (hm : kMk v k) (hl : ¬ kHm v N n k ≤ (kBf v N n k).2) : kBf v N n (k + 1) = (nI k, kHm v N n k) := by
  show (if kMk v k then _ else _) = _
  rw [if_pos hm, if_neg hl]
theorem kBf_f {v : kM} {N n : Nat} : ∀ k, (kBf v N n k).1 = -1 ∨ ∃ j, j < k ∧ (kBf v N n k).1 = nI j
  | 0 => Or.inl rfl
  | k + 1 => by
    have ih := kBf_f (v := v) (N := N) (n := n) k
    have up : ((kBf v N n k).1 = -1 ∨ ∃ j, j < k ∧ (kBf v N n k).1 = nI j) → ((kBf v N n k).1 = -1 ∨ ∃ j, j < k + 1 ∧ (kBf v N n k).1 = nI j) := fun x => by
      rcases x with e | ⟨j, hj, e⟩
      · exact Or.inl e
      · exact Or.inr ⟨j, by omega, e⟩
    by_cases hm : kMk v k
    · by_cases hl : kHm v N n k ≤ (kBf v N n k).2
      · rw [kBf_l hm hl]
        exact up ih
      · rw [kBf_g hm hl]
        exact Or.inr ⟨k, by omega, rfl⟩
    · rw [kBf_n hm]
      exact up ih
theorem sg_X0_weigh_0 {G : kG} {d : Nat} {Q : Int32 → kM → Prop}  {a1 : Int32} {h : kM} (hd : 6 ≤ d)  (H :
    Cal G (d - 1) m_X0_foresee [.ref 40, .ref 1, .int a1] h (fun x1 h2 =>
      Cal G (d - 1) m_X0_sailOn [.ref 40, .ref 1, .int a1, .int (0 : Int32)] h2 (fun x3 h4 =>
        Cal G (d - 1) m_X0_homeIn [.ref 70, .int (h4 1 12)] h4 (fun x5 h6 =>
          ((x5 ≤ (h6 40 7) →
            Q 0 h6
          ) ∧ (¬ (x5 ≤ (h6 40 7)) →
            ∀ h8 : kM, h8 = kU h6 40 7 x5 →
            ∀ h9 : kM, h9 = kU h8 40 6 a1 →
            Q 0 h9
          ))
        )
      )
    )) : Wp G d m_X0_weigh (kEo G d m_X0_weigh Q) 0 [.ref 40, .ref 1, .int a1, .null] [] h := by
  refine wp_aload_n 1 dX0_weigh_0 rfl rfl ?_
  refine wp_aload_n 2 dX0_weigh_1 rfl rfl ?_
  refine wp_iload_n 3 dX0_weigh_2 rfl rfl ?_
  refine wp_cV (d - 1) 2 [.ref 1, .int a1] [] 6 dX0_weigh_3 rfl (lk_X0_65 rfl) (by omega) kd_40 rfl rfl rfl (Nat.le_of_ble_eq_true rfl) (H.mono (fun x1 h2 H => ?_))
  refine wp_aload_n 7 dX0_weigh_6 rfl rfl ?_
  refine wp_aload_n 8 dX0_weigh_7 rfl rfl ?_
  refine wp_iload_n 9 dX0_weigh_8 rfl rfl ?_
  refine wp_iconst (0 : Int32) 10 dX0_weigh_9 kiconst_0 rfl ?_
  refine wp_cV (d - 1) 3 [.ref 1, .int a1, .int (0 : Int32)] [] 13 dX0_weigh_10 rfl (lk_X0_68 rfl) (by omega) kd_40 rfl rfl rfl (Nat.le_of_ble_eq_true rfl) (H.mono (fun x3 h4 H => ?_))
  refine wp_aload_n 14 dX0_weigh_13 rfl rfl ?_
  refine wp_getR 30 70 17 dX0_weigh_14 rfl fl_X0_26 kd_40 rfl rfl rfl rfl ?_
  refine wp_aload_n 18 dX0_weigh_17 rfl rfl ?_
  refine wp_getI 21 dX0_weigh_18 rfl fl_X0_40 kd_1 rfl ?_
  refine wp_cS (d - 1) 2 [.ref 70, .int (h4 1 12)] [] 24 dX0_weigh_21 rfl (lk_X0_45 rfl) (by omega) rfl rfl (Nat.le_of_ble_eq_true rfl) (H.mono (fun x5 h6 H => ?_))
  refine wp_istore_n 25 dX0_weigh_24 rfl (Nat.le_of_ble_eq_true rfl) rfl ?_
  refine wp_iload_n 26 dX0_weigh_25 rfl rfl ?_
  refine wp_aload_n 27 dX0_weigh_26 rfl rfl ?_
  refine wp_getI 30 dX0_weigh_27 rfl fl_X0_49 kd_40 rfl ?_
  refine wp_icmp_le 43 33 dX0_weigh_30 rfl rfl ⟨fun c7 => ?_, fun c7 => ?_⟩
  · replace H := H.1 c7
    exact wp_retv dX0_weigh_43 rfl H
  · replace H := H.2 c7
    refine wp_aload_n 34 dX0_weigh_33 rfl rfl ?_
    refine wp_iload_n 35 dX0_weigh_34 rfl rfl ?_
    refine wp_putI 38 dX0_weigh_35 rfl fl_X0_49 fin_0_7 kd_40 rfl ?_
    refine wp_nm (fun h8 eh8 => ?_)
    replace H := H h8 eh8
    refine wp_aload_n 39 dX0_weigh_38 rfl rfl ?_
    refine wp_iload_n 40 dX0_weigh_39 rfl rfl ?_
    refine wp_putI 43 dX0_weigh_40 rfl fl_X0_33 fin_0_6 kd_40 rfl ?_
    refine wp_nm (fun h9 eh9 => ?_)
    replace H := H h9 eh9
    exact wp_retv dX0_weigh_43 rfl H

theorem cg_X0_weigh {G : kG} {d : Nat} {Q : Int32 → kM → Prop}  {a1 : Int32} {h : kM} (hd : 6 ≤ d)  (H :
    Cal G (d - 1) m_X0_foresee [.ref 40, .ref 1, .int a1] h (fun x1 h2 =>
      Cal G (d - 1) m_X0_sailOn [.ref 40, .ref 1, .int a1, .int (0 : Int32)] h2 (fun x3 h4 =>
        Cal G (d - 1) m_X0_homeIn [.ref 70, .int (h4 1 12)] h4 (fun x5 h6 =>
          ((x5 ≤ (h6 40 7) →
            Q 0 h6
          ) ∧ (¬ (x5 ≤ (h6 40 7)) →
            ∀ h8 : kM, h8 = kU h6 40 7 x5 →
            ∀ h9 : kM, h9 = kU h8 40 6 a1 →
            Q 0 h9
          ))
        )
      )
    )) : Cal G d m_X0_weigh [.ref 40, .ref 1, .int a1] h Q :=
  Cal.of [.ref 40, .ref 1, .int a1, .null] (by decide +kernel) (Nat.le_of_ble_eq_true rfl) rfl (sg_X0_weigh_0 hd  H)

def at_X0_findBest_33 (G : kG) (d : Nat) (Q : Int32 → kM → Prop)  (v2 : Int32) (v3 : Int32) (h : kM) : Prop := Wp G d m_X0_findBest (kEo G d m_X0_findBest Q) 33 [.ref 40, .ref 1, .int v2, .int v3] [] h
theorem sg_X0_findBest_0 {G : kG} {d : Nat} {Q : Int32 → kM → Prop}  {a1 : Int32} {h : kM} (hd : 7 ≤ d)  (H :
    Cal G (d - 1) m_X0_lookFrom [.ref 40, .ref 1, .int a1] h (fun x1 h2 =>
      ∀ h3 : kM, h3 = kU h2 40 6 (-1 : Int32) →
      (vp_in (h3 40 5) 25) ∧
      ∀ q5 : Nat, q5 = 45 + ((h3 40 5)).toNatClampNeg → kd q5 = (1, 5) →
      Cal G (d - 1) m_X0_homeIn [.ref q5, .int (h3 1 12)] h3 (fun x6 h7 =>
        ∀ h8 : kM, h8 = kU h7 40 7 x6 →
        at_X0_findBest_33 G d Q a1 (0 : Int32) h8
      )
    )) : Wp G d m_X0_findBest (kEo G d m_X0_findBest Q) 0 [.ref 40, .ref 1, .int a1, .null] [] h := by
  refine wp_aload_n 1 dX0_findBest_0 rfl rfl ?_
  refine wp_aload_n 2 dX0_findBest_1 rfl rfl ?_
  refine wp_iload_n 3 dX0_findBest_2 rfl rfl ?_
  refine wp_cV (d - 1) 2 [.ref 1, .int a1] [] 6 dX0_findBest_3 rfl (lk_X0_29 rfl) (by omega) kd_40 rfl rfl rfl (Nat.le_of_ble_eq_true rfl) (H.mono (fun x1 h2 H => ?_))
  refine wp_aload_n 7 dX0_findBest_6 rfl rfl ?_
  refine wp_iconst (-1 : Int32) 8 dX0_findBest_7 kiconst_m1 rfl ?_
  refine wp_putI 11 dX0_findBest_8 rfl fl_X0_33 fin_0_6 kd_40 rfl ?_
  refine wp_nm (fun h3 eh3 => ?_)
  replace H := H h3 eh3
  refine wp_aload_n 12 dX0_findBest_11 rfl rfl ?_
  refine wp_aload_n 13 dX0_findBest_12 rfl rfl ?_
  refine wp_getR 4 44 16 dX0_findBest_13 rfl fl_X0_23 kd_40 rfl rfl rfl rfl ?_
  refine wp_aload_n 17 dX0_findBest_16 rfl rfl ?_
  refine wp_getI 20 dX0_findBest_17 rfl fl_X0_37 kd_40 rfl ?_
  have c4 := H.1; replace H := H.2
  refine wp_course 21 dX0_findBest_20 rfl c4 (fun q5 eq5 k_q5 => ?_)
  replace H := H q5 eq5 k_q5
  refine wp_aload_n 22 dX0_findBest_21 rfl rfl ?_
  refine wp_getI 25 dX0_findBest_22 rfl fl_X0_40 kd_1 rfl ?_
  refine wp_cS (d - 1) 2 [.ref q5, .int (h3 1 12)] [.ref 40] 28 dX0_findBest_25 rfl (lk_X0_45 rfl) (by omega) rfl rfl (Nat.le_of_ble_eq_true rfl) (H.mono (fun x6 h7 H => ?_))
  refine wp_putI 31 dX0_findBest_28 rfl fl_X0_49 fin_0_7 kd_40 rfl ?_
  refine wp_nm (fun h8 eh8 => ?_)
  replace H := H h8 eh8
  refine wp_iconst (0 : Int32) 32 dX0_findBest_31 kiconst_0 rfl ?_
  refine wp_istore_n 33 dX0_findBest_32 rfl (Nat.le_of_ble_eq_true rfl) rfl ?_
  exact H

theorem cg_X0_findBest {G : kG} {d : Nat} {Q : Int32 → kM → Prop}  {a1 : Int32} {h : kM} (hd : 7 ≤ d)  (H :
    Cal G (d - 1) m_X0_lookFrom [.ref 40, .ref 1, .int a1] h (fun x1 h2 =>
      ∀ h3 : kM, h3 = kU h2 40 6 (-1 : Int32) →
      (vp_in (h3 40 5) 25) ∧
      ∀ q5 : Nat, q5 = 45 + ((h3 40 5)).toNatClampNeg → kd q5 = (1, 5) →
      Cal G (d - 1) m_X0_homeIn [.ref q5, .int (h3 1 12)] h3 (fun x6 h7 =>
        ∀ h8 : kM, h8 = kU h7 40 7 x6 →
        at_X0_findBest_33 G d Q a1 (0 : Int32) h8
      )
    )) : Cal G d m_X0_findBest [.ref 40, .ref 1, .int a1] h Q :=
  Cal.of [.ref 40, .ref 1, .int a1, .null] (by decide +kernel) (Nat.le_of_ble_eq_true rfl) rfl (sg_X0_findBest_0 hd  H)

theorem sg_X0_findBest_33 {G : kG} {d : Nat} {Q : Int32 → kM → Prop}  {v2 : Int32} {v3 : Int32} {h : kM} (hd : 7 ≤ d)  (H :
    ((((3 : Int32) * (h 1 12)) ≤ v3 →
      Q 0 h
    ) ∧ (¬ (((3 : Int32) * (h 1 12)) ≤ v3) →
      (vp_in (v3 / (3 : Int32)) 5) ∧
      (vp_in v3 15) ∧
      (((kb (h (1 + 8) (v3).toNatClampNeg = -1 ∧ kDay (h 1 13) ∧ ¬ (h 4 ((v3 / (3 : Int32))).toNatClampNeg) / 64 = 1)) = 0 →
        at_X0_findBest_33 G d Q v2 (v3 + (1 : Int32)) h
      ) ∧ (¬ ((kb (h (1 + 8) (v3).toNatClampNeg = -1 ∧ kDay (h 1 13) ∧ ¬ (h 4 ((v3 / (3 : Int32))).toNatClampNeg) / 64 = 1)) = 0) →
        Cal G (d - 1) m_X0_weigh [.ref 40, .ref 1, .int v3] h (fun x5 h6 =>
          at_X0_findBest_33 G d Q v2 (v3 + (1 : Int32)) h6
        )
      ))
    ))) : at_X0_findBest_33 G d Q v2 v3 h := by
  show Wp G d m_X0_findBest (kEo G d m_X0_findBest Q) 33 [.ref 40, .ref 1, .int v2, .int v3] [] h
  refine wp_iload_n 34 dX0_findBest_33 rfl rfl ?_
  refine wp_iconst (3 : Int32) 35 dX0_findBest_34 kiconst_3 rfl ?_
  refine wp_aload_n 36 dX0_findBest_35 rfl rfl ?_
  refine wp_getI 39 dX0_findBest_36 rfl fl_X0_40 kd_1 rfl ?_
  refine wp_imul 40 dX0_findBest_39 rfl ?_
  refine wp_icmp_ge 75 43 dX0_findBest_40 rfl rfl ⟨fun c1 => ?_, fun c1 => ?_⟩
  · replace H := H.1 c1
    exact wp_retv dX0_findBest_75 rfl H
  · replace H := H.2 c1
    refine wp_aload_n 44 dX0_findBest_43 rfl rfl ?_
    refine wp_iload_n 45 dX0_findBest_44 rfl rfl ?_
    refine wp_aload_n 46 dX0_findBest_45 rfl rfl ?_
    refine wp_getI 49 dX0_findBest_46 rfl fl_X0_52 kd_1 rfl ?_
    refine wp_aload_n 50 dX0_findBest_49 rfl rfl ?_
    refine wp_getR 3 4 53 dX0_findBest_50 rfl fl_X0_55 kd_1 rfl rfl rfl rfl ?_
    refine wp_iload_n 54 dX0_findBest_53 rfl rfl ?_
    refine wp_iconst (3 : Int32) 55 dX0_findBest_54 kiconst_3 rfl ?_
    refine wp_idiv 56 dX0_findBest_55 (by decide) rfl ?_
    have c2 := H.1; replace H := H.2
    refine wp_iald 57 dX0_findBest_56 rfl kd_4 c2 ?_
    have c3 := H.1; replace H := H.2
    refine wp_cV (d - 1) 3 [.int v3, .int (h 1 13), .int (h 4 ((v3 / (3 : Int32))).toNatClampNeg)] [] 60 dX0_findBest_57 rfl (lk_X0_58 rfl) (by omega) kd_1 rfl rfl rfl (Nat.le_of_ble_eq_true rfl) (sp_X2_mayBeLoosed (by omega) kSea_is1 c3 ?_)
    refine wp_if_eq 69 63 dX0_findBest_60 rfl rfl ⟨fun c4 => ?_, fun c4 => ?_⟩
    · replace H := H.1 c4
      refine wp_iinc (1 : Int32) 72 dX0_findBest_69 rfl rfl kiconst_1 (Nat.le_of_ble_eq_true rfl) rfl ?_
      refine wp_goto 33 dX0_findBest_72 rfl ?_
      exact H
    · replace H := H.2 c4
      refine wp_aload_n 64 dX0_findBest_63 rfl rfl ?_
      refine wp_aload_n 65 dX0_findBest_64 rfl rfl ?_
      refine wp_iload_n 66 dX0_findBest_65 rfl rfl ?_
      refine wp_cV (d - 1) 2 [.ref 1, .int v3] [] 69 dX0_findBest_66 rfl (lk_X0_62 rfl) (by omega) kd_40 rfl rfl rfl (Nat.le_of_ble_eq_true rfl) (H.mono (fun x5 h6 H => ?_))
      refine wp_iinc (1 : Int32) 72 dX0_findBest_69 rfl rfl kiconst_1 (Nat.le_of_ble_eq_true rfl) rfl ?_
      refine wp_goto 33 dX0_findBest_72 rfl ?_
      exact H

theorem sp_X0_weigh (hd : 6 ≤ d) {N n k : Nat} {h0 : kM} {g : Nat → Int32} {H f w : Nat} (hS : kSRn (kVw h0 1) g n H f w) (hN : N ≤ 24) (hH : H ≤ 9999) (hk : k < 3 * n) (ht : kVw h0 1 8 k = -1) (L : kLk 1 N n N N 0 h0 h) (k1 : kHm (kVw h0 1) N n k ≤ h 40 7 → ∀ h1, kLk 1 N n N N 0 h0 h1 → h1 40 = h 40 → Q 0 h1) (k2 : ¬ kHm (kVw h0 1) N n k ≤ h 40 7 → ∀ h1, kLk 1 N n N N 0 h0 h1 → h1 40 6 = nI k → h1 40 7 = kHm (kVw h0 1) N n k → Q 0 h1) : Cal G d m_X0_weigh [.ref 40, .ref 1, .int (nI k)] h Q := by
  have hn := hS.1.1
  have ev := L.1.eq kSea_is1
  refine cg_X0_weigh hd (sp_X0_foresee (d := d - 1) (by omega) kSea_is1 hN L.2.1 (by omega) (hS.ok.eq ev).2.1 (fun h2 o2 F2 => ?_))
  have L2 : kLk 1 N n N N 0 h0 h2 := L.keep kSea_is1 (Or.inr ⟨hN, rfl⟩) (fun a _ y _ z u => o2 a y z u) (by rw [o2 40 (by decide) (by decide) (by decide)])
  refine sp_X0_sailOn (d := d - 1) (i := 0) (by omega) kSea_is1 hS hN hH hk ht (Nat.zero_le N) L2 (fun t ht2 => by rw [F2 t ht2, kFo_e ev]) (fun h4 o4 P4 => ?_)
  have L4 : kLk 1 N n N N 0 h0 h4 := L2.keep kSea_is1 (Or.inr ⟨hN, rfl⟩) (fun a _ _ y _ _ => o4 a y) (by rw [o4 40 (by decide)])
  have b12 : h4 1 12 = nI n := by rw [L4.1 1 (by decide) (by decide) (by decide)]; exact hS.1.2.1
  have e40 : h4 40 = h 40 := by rw [o4 40 (by decide), o2 40 (by decide) (by decide) (by decide)]
  rw [b12]
  obtain ⟨gU, hU⟩ := hS.up (i := 0) (k := k) (by omega) hk
  refine sp_X0_homeIn (d := d - 1) (by omega) kd_70 (W := kHrN (kLo (kVw h0 1) k) N) hn (fun p hp => ?_) ?_
  · have l := kSh_pl hU hp (i := N) (by omega)
    exact ⟨kSh (kUp (kVw h0 1) 0 k) p N, l.2.1, l.2.2, P4 p hp, rfl⟩
  · rw [e40]
    refine ⟨fun z => k1 z h4 L4 e40, fun z h8 e8 h9 e9 => k2 z h9 ?_ (by rw [e9, kU_eq, pk_us]) (by rw [e9, kU_eq, pk_un (by decide), e8, kU_eq, pk_us]; rfl)⟩
    exact L4.keep kSea_is1 (Or.inr ⟨hN, rfl⟩) (fun a x _ _ _ _ => by rw [e9, kU_ne x, e8, kU_ne x]) (by rw [e9, kU_eq, pk_un (by decide), e8, kU_eq, pk_un (by decide)])
theorem kMk_i {v : kM} {g : Nat → Int32} {n H f w k : Nat} (hS : kSRn v g n H f w) (hk : k < 3 * n) : ∃ x : Nat × Nat, x.1 < 64 ∧ x.2 < 3 ∧ v 3 (k / 3) = kPl x ∧ g (74 + 3 * (k / 3)) = nI x.2 ∧ (kMk v k ↔ v 8 k = -1 ∧ kDay (v 0 13) ∧ ¬ nI x.2 = 1) := by
  obtain ⟨x, x1, x2, x3, x4, x5, x6, x7, x8, x9⟩ := (hS.2.2.2.2.2.2.2.1 (k / 3) (by omega)).xy
  refine ⟨x, x1, x2, x4, x7, ?_⟩
  unfold kMk
  rw [x5]
theorem sp_X0_findBest (hd : 7 ≤ d) {N n : Nat} {g : Nat → Int32} {H f w : Nat} (hS : kSRn (kVw h 1) g n H f w) (hN : N ≤ 24) (hH : H ≤ 9999) (kk : ∀ h1, kFs 1 h h1 → h1 40 6 = (kBf (kVw h 1) N n (3 * n)).1 → h1 40 7 = (kBf (kVw h 1) N n (3 * n)).2 → Q 0 h1) : Cal G d m_X0_findBest [.ref 40, .ref 1, .int (nI N)] h Q := by
  have hn := hS.1.1
  have lp : ∀ (m i : Nat) (h1 : kM), i + m = 3 * n → kLk 1 N n N N 0 h h1 → h1 40 6 = (kBf (kVw h 1) N n i).1 → h1 40 7 = (kBf (kVw h 1) N n i).2 → at_X0_findBest_33 G d Q (nI N) (nI i) h1 := by
    intro m
    induction m with
    | zero =>
      intro i h1 hi L y6 y7
      have hi2 : i = 3 * n := by omega
      subst hi2
      have e0 : (3 : Int32) * h1 1 12 = nI (3 * n) := by rw [L.1 1 (by decide) (by decide) (by decide), show h 1 12 = nI n from hS.1.2.1]; exact pk_mul 3 n
      exact sg_X0_findBest_33 hd ⟨fun _ => kk h1 L.1 y6 y7, fun z => absurd (by rw [e0]; exact nI_le (Nat.le_refl _) (by omega)) z⟩
    | succ m ih =>
      intro i h1 hi L y6 y7
      have e0 : (3 : Int32) * h1 1 12 = nI (3 * n) := by rw [L.1 1 (by decide) (by decide) (by decide), show h 1 12 = nI n from hS.1.2.1]; exact pk_mul 3 n
      have e3 : nI i / 3 = nI (i / 3) := pk_div (by omega) (by decide) (by decide)
      obtain ⟨x, x1, x2, x4, x7, xm⟩ := kMk_i hS (k := i) (by omega)
      have x4 : h 4 (i / 3) = kPl x := x4
      refine sg_X0_findBest_33 hd ⟨fun z => absurd z (by rw [e0]; exact ltn (nI_lt (by omega) (by omega))), fun _ => ?_⟩
      rw [e3, nI_clamp (n := i) (by omega), nI_clamp (n := i / 3) (by omega), L.1 1 (by decide) (by decide) (by decide), L.1 (1 + 8) (by decide) (by decide) (by decide), L.1 4 (by decide) (by decide) (by decide), x4, kPl_st x1 x2, nI_1]
      refine ⟨vp_in_nI (by omega) (by decide), vp_in_nI (by omega) (by decide), fun z => ?_, fun z => ?_⟩
      · have nm : ¬ kMk (kVw h 1) i := fun e => kb_0.mp z (xm.mp e)
        exact ih (i + 1) h1 (by omega) L (by rw [kBf_n nm]; exact y6) (by rw [kBf_n nm]; exact y7)
      · have hm : kMk (kVw h 1) i := xm.mpr (kb_n0.mp z)
        refine sp_X0_weigh (d := d - 1) (by omega) hS hN hH (by omega) hm.1 L (fun c h2 L2 e40 => ?_) (fun c h2 L2 z6 z7 => ?_)
        · rw [y7] at c
          exact ih (i + 1) h2 (by omega) L2 (by rw [kBf_l hm c, e40]; exact y6) (by rw [kBf_l hm c, e40]; exact y7)
        · rw [y7] at c
          exact ih (i + 1) h2 (by omega) L2 (by rw [kBf_g hm c]; exact z6) (by rw [kBf_g hm c]; exact z7)
  refine cg_X0_findBest hd (sp_X0_lookFrom (d := d - 1) (by omega) kSea_is1 hS hN hH (fun h2 L2 h3 e3 => ?_))
  have L3 : kLk 1 N n N N 0 h h3 := L2.keep kSea_is1 (Or.inr ⟨hN, rfl⟩) (fun a x _ _ _ _ => by rw [e3, kU_ne x]) (by rw [e3, kU_eq, pk_un (by decide)])
  rw [L3.2.1, nI_clamp (by omega)]
  refine ⟨vp_in_nI (by omega) (by decide), fun q5 e5 k5 => ?_⟩
  subst e5
  have b12 : h3 1 12 = nI n := by rw [L3.1 1 (by decide) (by decide) (by decide)]; exact hS.1.2.1
  rw [b12]
  refine sp_X0_homeIn (d := d - 1) (by omega) k5 (W := kHrN (kVw h 1) N) hn (fun p hp => ?_) (fun h8 e8 => ?_)
  · have l := kSh_pl hS hp (i := N) (by omega)
    exact ⟨kSh (kVw h 1) p N, l.2.1, l.2.2, L3.2.2.2.1 N (Nat.le_refl N) p hp, rfl⟩
  · refine lp (3 * n) 0 h8 (by omega) (L3.keep kSea_is1 (Or.inr ⟨hN, rfl⟩) (fun a x _ _ _ _ => by rw [e8, kU_ne x]) (by rw [e8, kU_eq, pk_un (by decide)])) ?_ ?_
    · rw [e8, kU_eq, pk_un (by decide), e3, kU_eq, pk_us]
      rfl
    · rw [e8, kU_eq, pk_us]
      rfl
theorem kAh.back2 {v : kM} {g g0 : Nat → Int32} {n H f w i : Nat} {h h1 h2 : kM} (a : kAh v g n H f w i h h1) (h92 : ∀ j, j < 147 → h 92 j = g0 j) (hg : ∀ j, 147 ≤ j → g j = g0 j) (e2 : h2 = kCp h1 92 89 0 0 147) : h2 89 = g0 ∧ ∀ b, b ≠ 89 → b ≠ 95 → b ≠ 96 → h2 b = h b := by
  subst e2
  refine ⟨?_, fun b b1 b2 b3 => by rw [kCp_ne b1, a.1 b b1 b2 b3]⟩
  rw [kCp_eq]
  funext j
  rw [cpy0]
  by_cases hj : j < 147
  · rw [if_pos hj, a.1 92 (by decide) (by decide) (by decide)]
    exact h92 j hj
  · rw [if_neg hj, a.2.1 j (by omega) (by omega)]
    exact hg j (by omega)
def at_X8_bestKnot_52 (G : kG) (d : Nat) (Q : Int32 → kM → Prop)  (v1 : Int32) (v2 : Int32) (v3 : Int32) (v4 : Int32) (v5 : Int32) (h : kM) : Prop := Wp G d m_X8_bestKnot (kEo G d m_X8_bestKnot Q) 52 [.ref 88, .int v1, .int v2, .int v3, .int v4, .int v5] [] h
theorem sg_X8_bestKnot_0 {G : kG} {d : Nat} {Q : Int32 → kM → Prop}  {a1 : Int32} {a2 : Int32} {h : kM} (hd : 9 ≤ d)  (H :
    (((kb ((1 : Int32) ≤ a1 ∧ a1 ≤ (24 : Int32))) = 0 →
      (vp_in (1 : Int32) 7) ∧
      ∀ h3 : kM, h3 = kErr h 93 (1 : Int32) →
      Q (-1000000000 - (1 : Int32)) h3
    ) ∧ (¬ ((kb ((1 : Int32) ≤ a1 ∧ a1 ≤ (24 : Int32))) = 0) →
      ((¬ (kb ((0 : Int32) ≤ a2 ∧ a2 ≤ (1 : Int32))) = 0 →
        ∀ h5 : kM, h5 = kCp h 89 92 0 0 147 →
        Cal G (d - 1) m_X8_go [.ref 88, .int a1] h5 (fun x6 h7 =>
          Cal G (d - 1) m_X8_standing [.ref 88, .int (2 : Int32)] h7 (fun x8 h9 =>
            ∀ h10 : kM, h10 = kCp h9 92 89 0 0 147 →
            at_X8_bestKnot_52 G d Q a1 a2 x8 (-1 : Int32) (0 : Int32) h10
          )
        )
      ) ∧ ((kb ((0 : Int32) ≤ a2 ∧ a2 ≤ (1 : Int32))) = 0 →
        (vp_in (1 : Int32) 7) ∧
        ∀ h12 : kM, h12 = kErr h 93 (1 : Int32) →
        Q (-1000000000 - (1 : Int32)) h12
      ))
    ))) : Wp G d m_X8_bestKnot (kEo G d m_X8_bestKnot Q) 0 [.ref 88, .int a1, .int a2, .null, .null, .null] [] h := by
  refine wp_iload_n 1 dX8_bestKnot_0 rfl rfl ?_
  refine wp_iconst (1 : Int32) 2 dX8_bestKnot_1 kiconst_1 rfl ?_
  refine wp_bipush (24 : Int32) 4 dX8_bestKnot_2 kbipush_24 rfl ?_
  refine wp_cS (d - 1) 3 [.int a1, .int (1 : Int32), .int (24 : Int32)] [] 7 dX8_bestKnot_4 rfl (lk_X8_50 rfl) (by omega) rfl rfl (Nat.le_of_ble_eq_true rfl) (sp_X8_in (by omega)  ?_)
  refine wp_if_eq 19 10 dX8_bestKnot_7 rfl rfl ⟨fun c1 => ?_, fun c1 => ?_⟩
  · replace H := H.1 c1
    refine wp_aload_n 20 dX8_bestKnot_19 rfl rfl ?_
    refine wp_iconst (1 : Int32) 21 dX8_bestKnot_20 kiconst_1 rfl ?_
    have c2 := H.1; replace H := H.2
    refine wp_cV (d - 1) 1 [.int (1 : Int32)] [] 24 dX8_bestKnot_21 rfl (lk_X8_62 rfl) (by omega) kd_88 rfl rfl rfl (Nat.le_of_ble_eq_true rfl) (sp_X8_error (by omega) c2 (fun h3 eh3 => ?_))
    replace H := H h3 eh3
    exact wp_reti dX8_bestKnot_24 rfl H
  · replace H := H.2 c1
    refine wp_iload_n 11 dX8_bestKnot_10 rfl rfl ?_
    refine wp_iconst (0 : Int32) 12 dX8_bestKnot_11 kiconst_0 rfl ?_
    refine wp_iconst (1 : Int32) 13 dX8_bestKnot_12 kiconst_1 rfl ?_
    refine wp_cS (d - 1) 3 [.int a2, .int (0 : Int32), .int (1 : Int32)] [] 16 dX8_bestKnot_13 rfl (lk_X8_50 rfl) (by omega) rfl rfl (Nat.le_of_ble_eq_true rfl) (sp_X8_in (by omega)  ?_)
    refine wp_if_ne 25 19 dX8_bestKnot_16 rfl rfl ⟨fun c4 => ?_, fun c4 => ?_⟩
    · replace H := H.1 c4
      refine wp_aload_n 26 dX8_bestKnot_25 rfl rfl ?_
      refine wp_iconst (0 : Int32) 27 dX8_bestKnot_26 kiconst_0 rfl ?_
      refine wp_cV (d - 1) 1 [.int (0 : Int32)] [] 30 dX8_bestKnot_27 rfl (lk_X8_200 rfl) (by omega) kd_88 rfl rfl rfl (Nat.le_of_ble_eq_true rfl) (sp_X8_layDown (by omega)  (fun h5 eh5 => ?_))
      replace H := H h5 eh5
      refine wp_aload_n 31 dX8_bestKnot_30 rfl rfl ?_
      refine wp_iload_n 32 dX8_bestKnot_31 rfl rfl ?_
      refine wp_cV (d - 1) 1 [.int a1] [] 35 dX8_bestKnot_32 rfl (lk_X8_190 rfl) (by omega) kd_88 rfl rfl rfl (Nat.le_of_ble_eq_true rfl) (H.mono (fun x6 h7 H => ?_))
      refine wp_aload_n 36 dX8_bestKnot_35 rfl rfl ?_
      refine wp_iconst (2 : Int32) 37 dX8_bestKnot_36 kiconst_2 rfl ?_
      refine wp_cV (d - 1) 1 [.int (2 : Int32)] [] 40 dX8_bestKnot_37 rfl (lk_X8_193 rfl) (by omega) kd_88 rfl rfl rfl (Nat.le_of_ble_eq_true rfl) (H.mono (fun x8 h9 H => ?_))
      refine wp_istore_n 41 dX8_bestKnot_40 rfl (Nat.le_of_ble_eq_true rfl) rfl ?_
      refine wp_aload_n 42 dX8_bestKnot_41 rfl rfl ?_
      refine wp_iconst (0 : Int32) 43 dX8_bestKnot_42 kiconst_0 rfl ?_
      refine wp_cV (d - 1) 1 [.int (0 : Int32)] [] 46 dX8_bestKnot_43 rfl (lk_X8_203 rfl) (by omega) kd_88 rfl rfl rfl (Nat.le_of_ble_eq_true rfl) (sp_X8_layBack (by omega)  (fun h10 eh10 => ?_))
      replace H := H h10 eh10
      refine wp_iconst (-1 : Int32) 47 dX8_bestKnot_46 kiconst_m1 rfl ?_
      refine wp_istore 49 dX8_bestKnot_47 rfl (Nat.le_of_ble_eq_true rfl) rfl ?_
      refine wp_iconst (0 : Int32) 50 dX8_bestKnot_49 kiconst_0 rfl ?_
      refine wp_istore 52 dX8_bestKnot_50 rfl (Nat.le_of_ble_eq_true rfl) rfl ?_
      exact H
    · replace H := H.2 c4
      refine wp_aload_n 20 dX8_bestKnot_19 rfl rfl ?_
      refine wp_iconst (1 : Int32) 21 dX8_bestKnot_20 kiconst_1 rfl ?_
      have c11 := H.1; replace H := H.2
      refine wp_cV (d - 1) 1 [.int (1 : Int32)] [] 24 dX8_bestKnot_21 rfl (lk_X8_62 rfl) (by omega) kd_88 rfl rfl rfl (Nat.le_of_ble_eq_true rfl) (sp_X8_error (by omega) c11 (fun h12 eh12 => ?_))
      replace H := H h12 eh12
      exact wp_reti dX8_bestKnot_24 rfl H

theorem cg_X8_bestKnot {G : kG} {d : Nat} {Q : Int32 → kM → Prop}  {a1 : Int32} {a2 : Int32} {h : kM} (hd : 9 ≤ d)  (H :
    (((kb ((1 : Int32) ≤ a1 ∧ a1 ≤ (24 : Int32))) = 0 →
      (vp_in (1 : Int32) 7) ∧
      ∀ h3 : kM, h3 = kErr h 93 (1 : Int32) →
      Q (-1000000000 - (1 : Int32)) h3
    ) ∧ (¬ ((kb ((1 : Int32) ≤ a1 ∧ a1 ≤ (24 : Int32))) = 0) →
      ((¬ (kb ((0 : Int32) ≤ a2 ∧ a2 ≤ (1 : Int32))) = 0 →
        ∀ h5 : kM, h5 = kCp h 89 92 0 0 147 →
        Cal G (d - 1) m_X8_go [.ref 88, .int a1] h5 (fun x6 h7 =>
          Cal G (d - 1) m_X8_standing [.ref 88, .int (2 : Int32)] h7 (fun x8 h9 =>
            ∀ h10 : kM, h10 = kCp h9 92 89 0 0 147 →
            at_X8_bestKnot_52 G d Q a1 a2 x8 (-1 : Int32) (0 : Int32) h10
          )
        )
      ) ∧ ((kb ((0 : Int32) ≤ a2 ∧ a2 ≤ (1 : Int32))) = 0 →
        (vp_in (1 : Int32) 7) ∧
        ∀ h12 : kM, h12 = kErr h 93 (1 : Int32) →
        Q (-1000000000 - (1 : Int32)) h12
      ))
    ))) : Cal G d m_X8_bestKnot [.ref 88, .int a1, .int a2] h Q :=
  Cal.of [.ref 88, .int a1, .int a2, .null, .null, .null] (by decide +kernel) (Nat.le_of_ble_eq_true rfl) rfl (sg_X8_bestKnot_0 hd  H)

theorem sg_X8_bestKnot_52 {G : kG} {d : Nat} {Q : Int32 → kM → Prop}  {v1 : Int32} {v2 : Int32} {v3 : Int32} {v4 : Int32} {v5 : Int32} {h : kM} (hd : 9 ≤ d)  (H :
    ((((3 : Int32) * (h 89 0)) ≤ v5 →
      ((¬ v4 = (-1 : Int32) →
        ((¬ v2 = 0 →
          Q v3 h
        ) ∧ (v2 = 0 →
          Q (((10 : Int32) * (v4 / (3 : Int32))) + (v4 - v4 / (3 : Int32) * (3 : Int32))) h
        ))
      ) ∧ (v4 = (-1 : Int32) →
        (vp_in (2 : Int32) 7) ∧
        ∀ h5 : kM, h5 = kErr h 93 (2 : Int32) →
        Q (-1000000000 - (2 : Int32)) h5
      ))
    ) ∧ (¬ (((3 : Int32) * (h 89 0)) ≤ v5) →
      (okI v5 3 ∧ okO (v5 / 3) 2) ∧
      (((kb (mIt (h 89) v5 3 = -1 ∧ kDay (h 89 1) ∧ ¬ mOf (h 89) (v5 / 3) 2 = 1)) = 0 →
        at_X8_bestKnot_52 G d Q v1 v2 v3 v4 (v5 + (1 : Int32)) h
      ) ∧ (¬ ((kb (mIt (h 89) v5 3 = -1 ∧ kDay (h 89 1) ∧ ¬ mOf (h 89) (v5 / 3) 2 = 1)) = 0) →
        (okI v5 3) ∧
        ∀ h9 : kM, h9 = mLo h v5 →
        Cal G (d - 1) m_X8_go [.ref 88, .int v1] h9 (fun x10 h11 =>
          Cal G (d - 1) m_X8_standing [.ref 88, .int (2 : Int32)] h11 (fun x12 h13 =>
            ((x12 ≤ v3 →
              Cal G (d - 1) m_X8_standing [.ref 88, .int (2 : Int32)] h13 (fun x15 h16 =>
                ((x15 ≤ v3 →
                  ∀ h18 : kM, h18 = kCp h16 92 89 0 0 147 →
                  at_X8_bestKnot_52 G d Q v1 v2 v3 v4 (v5 + (1 : Int32)) h18
                ) ∧ (¬ (x15 ≤ v3) →
                  Cal G (d - 1) m_X8_standing [.ref 88, .int (2 : Int32)] h16 (fun x19 h20 =>
                    ∀ h21 : kM, h21 = kCp h20 92 89 0 0 147 →
                    at_X8_bestKnot_52 G d Q v1 v2 x19 v4 (v5 + (1 : Int32)) h21
                  )
                ))
              )
            ) ∧ (¬ (x12 ≤ v3) →
              Cal G (d - 1) m_X8_standing [.ref 88, .int (2 : Int32)] h13 (fun x22 h23 =>
                ((x22 ≤ v3 →
                  ∀ h25 : kM, h25 = kCp h23 92 89 0 0 147 →
                  at_X8_bestKnot_52 G d Q v1 v2 v3 v5 (v5 + (1 : Int32)) h25
                ) ∧ (¬ (x22 ≤ v3) →
                  Cal G (d - 1) m_X8_standing [.ref 88, .int (2 : Int32)] h23 (fun x26 h27 =>
                    ∀ h28 : kM, h28 = kCp h27 92 89 0 0 147 →
                    at_X8_bestKnot_52 G d Q v1 v2 x26 v5 (v5 + (1 : Int32)) h28
                  )
                ))
              )
            ))
          )
        )
      ))
    ))) : at_X8_bestKnot_52 G d Q v1 v2 v3 v4 v5 h := by
  show Wp G d m_X8_bestKnot (kEo G d m_X8_bestKnot Q) 52 [.ref 88, .int v1, .int v2, .int v3, .int v4, .int v5] [] h
  refine wp_iload 54 dX8_bestKnot_52 rfl rfl ?_
  refine wp_iconst (3 : Int32) 55 dX8_bestKnot_54 kiconst_3 rfl ?_
  refine wp_aload_n 56 dX8_bestKnot_55 rfl rfl ?_
  refine wp_getR 1 89 59 dX8_bestKnot_56 rfl fl_X8_7 kd_88 rfl rfl rfl rfl ?_
  refine wp_iconst (0 : Int32) 60 dX8_bestKnot_59 kiconst_0 rfl ?_
  refine wp_iald 61 dX8_bestKnot_60 rfl kd_89 (by unfold vp_in; decide) ?_
  refine wp_imul 62 dX8_bestKnot_61 rfl ?_
  refine wp_icmp_ge 133 65 dX8_bestKnot_62 rfl rfl ⟨fun c1 => ?_, fun c1 => ?_⟩
  · replace H := H.1 c1
    refine wp_iload 135 dX8_bestKnot_133 rfl rfl ?_
    refine wp_iconst (-1 : Int32) 136 dX8_bestKnot_135 kiconst_m1 rfl ?_
    refine wp_icmp_ne 145 139 dX8_bestKnot_136 rfl rfl ⟨fun c2 => ?_, fun c2 => ?_⟩
    · replace H := H.1 c2
      refine wp_iload_n 146 dX8_bestKnot_145 rfl rfl ?_
      refine wp_if_ne 164 149 dX8_bestKnot_146 rfl rfl ⟨fun c3 => ?_, fun c3 => ?_⟩
      · replace H := H.1 c3
        refine wp_iload_n 165 dX8_bestKnot_164 rfl rfl ?_
        exact wp_reti dX8_bestKnot_165 rfl H
      · replace H := H.2 c3
        refine wp_bipush (10 : Int32) 151 dX8_bestKnot_149 kbipush_10 rfl ?_
        refine wp_iload 153 dX8_bestKnot_151 rfl rfl ?_
        refine wp_iconst (3 : Int32) 154 dX8_bestKnot_153 kiconst_3 rfl ?_
        refine wp_idiv 155 dX8_bestKnot_154 (by decide) rfl ?_
        refine wp_imul 156 dX8_bestKnot_155 rfl ?_
        refine wp_iload 158 dX8_bestKnot_156 rfl rfl ?_
        refine wp_iconst (3 : Int32) 159 dX8_bestKnot_158 kiconst_3 rfl ?_
        refine wp_irem 160 dX8_bestKnot_159 (by decide) rfl ?_
        refine wp_iadd 161 dX8_bestKnot_160 rfl ?_
        refine wp_goto 165 dX8_bestKnot_161 rfl ?_
        exact wp_reti dX8_bestKnot_165 rfl H
    · replace H := H.2 c2
      refine wp_aload_n 140 dX8_bestKnot_139 rfl rfl ?_
      refine wp_iconst (2 : Int32) 141 dX8_bestKnot_140 kiconst_2 rfl ?_
      have c4 := H.1; replace H := H.2
      refine wp_cV (d - 1) 1 [.int (2 : Int32)] [] 144 dX8_bestKnot_141 rfl (lk_X8_62 rfl) (by omega) kd_88 rfl rfl rfl (Nat.le_of_ble_eq_true rfl) (sp_X8_error (by omega) c4 (fun h5 eh5 => ?_))
      replace H := H h5 eh5
      exact wp_reti dX8_bestKnot_144 rfl H
  · replace H := H.2 c1
    refine wp_aload_n 66 dX8_bestKnot_65 rfl rfl ?_
    refine wp_iload 68 dX8_bestKnot_66 rfl rfl ?_
    have c6 := H.1; replace H := H.2
    refine wp_cV (d - 1) 1 [.int v5] [] 71 dX8_bestKnot_68 rfl (lk_X8_174 rfl) (by omega) kd_88 rfl rfl rfl (Nat.le_of_ble_eq_true rfl) (sp_X8_mayLoose (by omega) c6 ?_)
    refine wp_if_eq 127 74 dX8_bestKnot_71 rfl rfl ⟨fun c7 => ?_, fun c7 => ?_⟩
    · replace H := H.1 c7
      refine wp_iinc (1 : Int32) 130 dX8_bestKnot_127 rfl rfl kiconst_1 (Nat.le_of_ble_eq_true rfl) rfl ?_
      refine wp_goto 52 dX8_bestKnot_130 rfl ?_
      exact H
    · replace H := H.2 c7
      refine wp_aload_n 75 dX8_bestKnot_74 rfl rfl ?_
      refine wp_iload 77 dX8_bestKnot_75 rfl rfl ?_
      have c8 := H.1; replace H := H.2
      refine wp_cV (d - 1) 1 [.int v5] [] 80 dX8_bestKnot_77 rfl (lk_X8_177 rfl) (by omega) kd_88 rfl rfl rfl (Nat.le_of_ble_eq_true rfl) (sp_X8_looses (by omega) c8 (fun h9 eh9 => ?_))
      replace H := H h9 eh9
      refine wp_aload_n 81 dX8_bestKnot_80 rfl rfl ?_
      refine wp_iload_n 82 dX8_bestKnot_81 rfl rfl ?_
      refine wp_cV (d - 1) 1 [.int v1] [] 85 dX8_bestKnot_82 rfl (lk_X8_190 rfl) (by omega) kd_88 rfl rfl rfl (Nat.le_of_ble_eq_true rfl) (H.mono (fun x10 h11 H => ?_))
      refine wp_aload_n 86 dX8_bestKnot_85 rfl rfl ?_
      refine wp_iconst (2 : Int32) 87 dX8_bestKnot_86 kiconst_2 rfl ?_
      refine wp_cV (d - 1) 1 [.int (2 : Int32)] [] 90 dX8_bestKnot_87 rfl (lk_X8_193 rfl) (by omega) kd_88 rfl rfl rfl (Nat.le_of_ble_eq_true rfl) (H.mono (fun x12 h13 H => ?_))
      refine wp_iload_n 91 dX8_bestKnot_90 rfl rfl ?_
      refine wp_icmp_le 99 94 dX8_bestKnot_91 rfl rfl ⟨fun c14 => ?_, fun c14 => ?_⟩
      · replace H := H.1 c14
        refine wp_iload 101 dX8_bestKnot_99 rfl rfl ?_
        refine wp_istore 103 dX8_bestKnot_101 rfl (Nat.le_of_ble_eq_true rfl) rfl ?_
        refine wp_aload_n 104 dX8_bestKnot_103 rfl rfl ?_
        refine wp_iconst (2 : Int32) 105 dX8_bestKnot_104 kiconst_2 rfl ?_
        refine wp_cV (d - 1) 1 [.int (2 : Int32)] [] 108 dX8_bestKnot_105 rfl (lk_X8_193 rfl) (by omega) kd_88 rfl rfl rfl (Nat.le_of_ble_eq_true rfl) (H.mono (fun x15 h16 H => ?_))
        refine wp_iload_n 109 dX8_bestKnot_108 rfl rfl ?_
        refine wp_icmp_le 120 112 dX8_bestKnot_109 rfl rfl ⟨fun c17 => ?_, fun c17 => ?_⟩
        · replace H := H.1 c17
          refine wp_iload_n 121 dX8_bestKnot_120 rfl rfl ?_
          refine wp_istore_n 122 dX8_bestKnot_121 rfl (Nat.le_of_ble_eq_true rfl) rfl ?_
          refine wp_aload_n 123 dX8_bestKnot_122 rfl rfl ?_
          refine wp_iconst (0 : Int32) 124 dX8_bestKnot_123 kiconst_0 rfl ?_
          refine wp_cV (d - 1) 1 [.int (0 : Int32)] [] 127 dX8_bestKnot_124 rfl (lk_X8_203 rfl) (by omega) kd_88 rfl rfl rfl (Nat.le_of_ble_eq_true rfl) (sp_X8_layBack (by omega)  (fun h18 eh18 => ?_))
          replace H := H h18 eh18
          refine wp_iinc (1 : Int32) 130 dX8_bestKnot_127 rfl rfl kiconst_1 (Nat.le_of_ble_eq_true rfl) rfl ?_
          refine wp_goto 52 dX8_bestKnot_130 rfl ?_
          exact H
        · replace H := H.2 c17
          refine wp_aload_n 113 dX8_bestKnot_112 rfl rfl ?_
          refine wp_iconst (2 : Int32) 114 dX8_bestKnot_113 kiconst_2 rfl ?_
          refine wp_cV (d - 1) 1 [.int (2 : Int32)] [] 117 dX8_bestKnot_114 rfl (lk_X8_193 rfl) (by omega) kd_88 rfl rfl rfl (Nat.le_of_ble_eq_true rfl) (H.mono (fun x19 h20 H => ?_))
          refine wp_goto 121 dX8_bestKnot_117 rfl ?_
          refine wp_istore_n 122 dX8_bestKnot_121 rfl (Nat.le_of_ble_eq_true rfl) rfl ?_
          refine wp_aload_n 123 dX8_bestKnot_122 rfl rfl ?_
          refine wp_iconst (0 : Int32) 124 dX8_bestKnot_123 kiconst_0 rfl ?_
          refine wp_cV (d - 1) 1 [.int (0 : Int32)] [] 127 dX8_bestKnot_124 rfl (lk_X8_203 rfl) (by omega) kd_88 rfl rfl rfl (Nat.le_of_ble_eq_true rfl) (sp_X8_layBack (by omega)  (fun h21 eh21 => ?_))
          replace H := H h21 eh21
          refine wp_iinc (1 : Int32) 130 dX8_bestKnot_127 rfl rfl kiconst_1 (Nat.le_of_ble_eq_true rfl) rfl ?_
          refine wp_goto 52 dX8_bestKnot_130 rfl ?_
          exact H
      · replace H := H.2 c14
        refine wp_iload 96 dX8_bestKnot_94 rfl rfl ?_
        refine wp_goto 101 dX8_bestKnot_96 rfl ?_
        refine wp_istore 103 dX8_bestKnot_101 rfl (Nat.le_of_ble_eq_true rfl) rfl ?_
        refine wp_aload_n 104 dX8_bestKnot_103 rfl rfl ?_
        refine wp_iconst (2 : Int32) 105 dX8_bestKnot_104 kiconst_2 rfl ?_
        refine wp_cV (d - 1) 1 [.int (2 : Int32)] [] 108 dX8_bestKnot_105 rfl (lk_X8_193 rfl) (by omega) kd_88 rfl rfl rfl (Nat.le_of_ble_eq_true rfl) (H.mono (fun x22 h23 H => ?_))
        refine wp_iload_n 109 dX8_bestKnot_108 rfl rfl ?_
        refine wp_icmp_le 120 112 dX8_bestKnot_109 rfl rfl ⟨fun c24 => ?_, fun c24 => ?_⟩
        · replace H := H.1 c24
          refine wp_iload_n 121 dX8_bestKnot_120 rfl rfl ?_
          refine wp_istore_n 122 dX8_bestKnot_121 rfl (Nat.le_of_ble_eq_true rfl) rfl ?_
          refine wp_aload_n 123 dX8_bestKnot_122 rfl rfl ?_
          refine wp_iconst (0 : Int32) 124 dX8_bestKnot_123 kiconst_0 rfl ?_
          refine wp_cV (d - 1) 1 [.int (0 : Int32)] [] 127 dX8_bestKnot_124 rfl (lk_X8_203 rfl) (by omega) kd_88 rfl rfl rfl (Nat.le_of_ble_eq_true rfl) (sp_X8_layBack (by omega)  (fun h25 eh25 => ?_))
          replace H := H h25 eh25
          refine wp_iinc (1 : Int32) 130 dX8_bestKnot_127 rfl rfl kiconst_1 (Nat.le_of_ble_eq_true rfl) rfl ?_
          refine wp_goto 52 dX8_bestKnot_130 rfl ?_
          exact H
        · replace H := H.2 c24
          refine wp_aload_n 113 dX8_bestKnot_112 rfl rfl ?_
          refine wp_iconst (2 : Int32) 114 dX8_bestKnot_113 kiconst_2 rfl ?_
          refine wp_cV (d - 1) 1 [.int (2 : Int32)] [] 117 dX8_bestKnot_114 rfl (lk_X8_193 rfl) (by omega) kd_88 rfl rfl rfl (Nat.le_of_ble_eq_true rfl) (H.mono (fun x26 h27 H => ?_))
          refine wp_goto 121 dX8_bestKnot_117 rfl ?_
          refine wp_istore_n 122 dX8_bestKnot_121 rfl (Nat.le_of_ble_eq_true rfl) rfl ?_
          refine wp_aload_n 123 dX8_bestKnot_122 rfl rfl ?_
          refine wp_iconst (0 : Int32) 124 dX8_bestKnot_123 kiconst_0 rfl ?_
          refine wp_cV (d - 1) 1 [.int (0 : Int32)] [] 127 dX8_bestKnot_124 rfl (lk_X8_203 rfl) (by omega) kd_88 rfl rfl rfl (Nat.le_of_ble_eq_true rfl) (sp_X8_layBack (by omega)  (fun h28 eh28 => ?_))
          replace H := H h28 eh28
          refine wp_iinc (1 : Int32) 130 dX8_bestKnot_127 rfl rfl kiconst_1 (Nat.le_of_ble_eq_true rfl) rfl ?_
          refine wp_goto 52 dX8_bestKnot_130 rfl ?_
          exact H

theorem sg_X7_bestKnot_0 {G : kG} {d : Nat} {Q : Int32 → kM → Prop}  {a1 : Int32} {a2 : Int32} {h : kM} (hd : 8 ≤ d)  (H :
    (((kb ((1 : Int32) ≤ a1 ∧ a1 ≤ (24 : Int32))) = 0 →
      (vp_in (1 : Int32) 7) ∧
      ∀ h3 : kM, h3 = kErr h 87 (1 : Int32) →
      Q (-1000000000 - (1 : Int32)) h3
    ) ∧ (¬ ((kb ((1 : Int32) ≤ a1 ∧ a1 ≤ (24 : Int32))) = 0) →
      ((¬ (kb (0 ≤ a2 ∧ a2 < (2 : Int32))) = 0 →
        Cal G (d - 1) m_X0_findBest [.ref 40, .ref 1, .int a1] h (fun x5 h6 =>
          ((0 ≤ (h6 40 6) →
            ((¬ a2 = 0 →
              Q (h6 40 7) h6
            ) ∧ (a2 = 0 →
              Q (10 * ((h6 40 6) / 3) + iR (h6 40 6) 3) h6
            ))
          ) ∧ (¬ (0 ≤ (h6 40 6)) →
            (vp_in (2 : Int32) 7) ∧
            ∀ h10 : kM, h10 = kErr h6 87 (2 : Int32) →
            Q (-1000000000 - (2 : Int32)) h10
          ))
        )
      ) ∧ ((kb (0 ≤ a2 ∧ a2 < (2 : Int32))) = 0 →
        (vp_in (1 : Int32) 7) ∧
        ∀ h12 : kM, h12 = kErr h 87 (1 : Int32) →
        Q (-1000000000 - (1 : Int32)) h12
      ))
    ))) : Wp G d m_X7_bestKnot (kEo G d m_X7_bestKnot Q) 0 [.ref 0, .int a1, .int a2] [] h := by
  refine wp_iload_n 1 dX7_bestKnot_0 rfl rfl ?_
  refine wp_iconst (1 : Int32) 2 dX7_bestKnot_1 kiconst_1 rfl ?_
  refine wp_bipush (24 : Int32) 4 dX7_bestKnot_2 kbipush_24 rfl ?_
  refine wp_cS (d - 1) 3 [.int a1, .int (1 : Int32), .int (24 : Int32)] [] 7 dX7_bestKnot_4 rfl (lk_X7_69 rfl) (by omega) rfl rfl (Nat.le_of_ble_eq_true rfl) (sp_X7_between (by omega)  ?_)
  refine wp_if_eq 18 10 dX7_bestKnot_7 rfl rfl ⟨fun c1 => ?_, fun c1 => ?_⟩
  · replace H := H.1 c1
    refine wp_aload_n 19 dX7_bestKnot_18 rfl rfl ?_
    refine wp_iconst (1 : Int32) 20 dX7_bestKnot_19 kiconst_1 rfl ?_
    have c2 := H.1; replace H := H.2
    refine wp_cV (d - 1) 1 [.int (1 : Int32)] [] 23 dX7_bestKnot_20 rfl (lk_X7_62 rfl) (by omega) kd_0 rfl rfl rfl (Nat.le_of_ble_eq_true rfl) (sp_X7_error (by omega) c2 (fun h3 eh3 => ?_))
    replace H := H h3 eh3
    exact wp_reti dX7_bestKnot_23 rfl H
  · replace H := H.2 c1
    refine wp_iload_n 11 dX7_bestKnot_10 rfl rfl ?_
    refine wp_iconst (2 : Int32) 12 dX7_bestKnot_11 kiconst_2 rfl ?_
    refine wp_cS (d - 1) 2 [.int a2, .int (2 : Int32)] [] 15 dX7_bestKnot_12 rfl (lk_X7_58 rfl) (by omega) rfl rfl (Nat.le_of_ble_eq_true rfl) (sp_X7_within (by omega)  ?_)
    refine wp_if_ne 24 18 dX7_bestKnot_15 rfl rfl ⟨fun c4 => ?_, fun c4 => ?_⟩
    · replace H := H.1 c4
      refine wp_aload_n 25 dX7_bestKnot_24 rfl rfl ?_
      refine wp_getR 40 40 28 dX7_bestKnot_25 rfl fl_X7_29 kd_0 rfl rfl rfl rfl ?_
      refine wp_aload_n 29 dX7_bestKnot_28 rfl rfl ?_
      refine wp_getR 1 1 32 dX7_bestKnot_29 rfl fl_X7_12 kd_0 rfl rfl rfl rfl ?_
      refine wp_iload_n 33 dX7_bestKnot_32 rfl rfl ?_
      refine wp_cV (d - 1) 2 [.ref 1, .int a1] [] 36 dX7_bestKnot_33 rfl (lk_X7_205 rfl) (by omega) kd_40 rfl rfl rfl (Nat.le_of_ble_eq_true rfl) (H.mono (fun x5 h6 H => ?_))
      refine wp_aload_n 37 dX7_bestKnot_36 rfl rfl ?_
      refine wp_getR 40 40 40 dX7_bestKnot_37 rfl fl_X7_29 kd_0 rfl rfl rfl rfl ?_
      refine wp_getI 43 dX7_bestKnot_40 rfl fl_X7_209 kd_40 rfl ?_
      refine wp_if_ge 52 46 dX7_bestKnot_43 rfl rfl ⟨fun c7 => ?_, fun c7 => ?_⟩
      · replace H := H.1 c7
        refine wp_iload_n 53 dX7_bestKnot_52 rfl rfl ?_
        refine wp_if_ne 69 56 dX7_bestKnot_53 rfl rfl ⟨fun c8 => ?_, fun c8 => ?_⟩
        · replace H := H.1 c8
          refine wp_aload_n 70 dX7_bestKnot_69 rfl rfl ?_
          refine wp_getR 40 40 73 dX7_bestKnot_70 rfl fl_X7_29 kd_0 rfl rfl rfl rfl ?_
          refine wp_getI 76 dX7_bestKnot_73 rfl fl_X7_215 kd_40 rfl ?_
          exact wp_reti dX7_bestKnot_76 rfl H
        · replace H := H.2 c8
          refine wp_aload_n 57 dX7_bestKnot_56 rfl rfl ?_
          refine wp_getR 40 40 60 dX7_bestKnot_57 rfl fl_X7_29 kd_0 rfl rfl rfl rfl ?_
          refine wp_getI 63 dX7_bestKnot_60 rfl fl_X7_209 kd_40 rfl ?_
          refine wp_cS (d - 1) 1 [.int (h6 40 6)] [] 66 dX7_bestKnot_63 rfl (lk_X7_212 rfl) (by omega) rfl rfl (Nat.le_of_ble_eq_true rfl) (sp_X7_namedKnot (by omega)  ?_)
          refine wp_goto 76 dX7_bestKnot_66 rfl ?_
          exact wp_reti dX7_bestKnot_76 rfl H
      · replace H := H.2 c7
        refine wp_aload_n 47 dX7_bestKnot_46 rfl rfl ?_
        refine wp_iconst (2 : Int32) 48 dX7_bestKnot_47 kiconst_2 rfl ?_
        have c9 := H.1; replace H := H.2
        refine wp_cV (d - 1) 1 [.int (2 : Int32)] [] 51 dX7_bestKnot_48 rfl (lk_X7_62 rfl) (by omega) kd_0 rfl rfl rfl (Nat.le_of_ble_eq_true rfl) (sp_X7_error (by omega) c9 (fun h10 eh10 => ?_))
        replace H := H h10 eh10
        exact wp_reti dX7_bestKnot_51 rfl H
    · replace H := H.2 c4
      refine wp_aload_n 19 dX7_bestKnot_18 rfl rfl ?_
      refine wp_iconst (1 : Int32) 20 dX7_bestKnot_19 kiconst_1 rfl ?_
      have c11 := H.1; replace H := H.2
      refine wp_cV (d - 1) 1 [.int (1 : Int32)] [] 23 dX7_bestKnot_20 rfl (lk_X7_62 rfl) (by omega) kd_0 rfl rfl rfl (Nat.le_of_ble_eq_true rfl) (sp_X7_error (by omega) c11 (fun h12 eh12 => ?_))
      replace H := H h12 eh12
      exact wp_reti dX7_bestKnot_23 rfl H

theorem cg_X7_bestKnot {G : kG} {d : Nat} {Q : Int32 → kM → Prop}  {a1 : Int32} {a2 : Int32} {h : kM} (hd : 8 ≤ d)  (H :
    (((kb ((1 : Int32) ≤ a1 ∧ a1 ≤ (24 : Int32))) = 0 →
      (vp_in (1 : Int32) 7) ∧
      ∀ h3 : kM, h3 = kErr h 87 (1 : Int32) →
      Q (-1000000000 - (1 : Int32)) h3
    ) ∧ (¬ ((kb ((1 : Int32) ≤ a1 ∧ a1 ≤ (24 : Int32))) = 0) →
      ((¬ (kb (0 ≤ a2 ∧ a2 < (2 : Int32))) = 0 →
        Cal G (d - 1) m_X0_findBest [.ref 40, .ref 1, .int a1] h (fun x5 h6 =>
          ((0 ≤ (h6 40 6) →
            ((¬ a2 = 0 →
              Q (h6 40 7) h6
            ) ∧ (a2 = 0 →
              Q (10 * ((h6 40 6) / 3) + iR (h6 40 6) 3) h6
            ))
          ) ∧ (¬ (0 ≤ (h6 40 6)) →
            (vp_in (2 : Int32) 7) ∧
            ∀ h10 : kM, h10 = kErr h6 87 (2 : Int32) →
            Q (-1000000000 - (2 : Int32)) h10
          ))
        )
      ) ∧ ((kb (0 ≤ a2 ∧ a2 < (2 : Int32))) = 0 →
        (vp_in (1 : Int32) 7) ∧
        ∀ h12 : kM, h12 = kErr h 87 (1 : Int32) →
        Q (-1000000000 - (1 : Int32)) h12
      ))
    ))) : Cal G d m_X7_bestKnot [.ref 0, .int a1, .int a2] h Q :=
  Cal.of [.ref 0, .int a1, .int a2] (by decide +kernel) (Nat.le_of_ble_eq_true rfl) rfl (sg_X7_bestKnot_0 hd  H)

theorem lp_mbest (hd : 9 ≤ d) {v : kM} {n H f w N : Nat} {a2 : Int32} (hS : kSRn v (h 89) n H f w) (hN : N ≤ 24) (hH : H ≤ 9999) (h92 : ∀ j, j < 147 → h 92 j = h 89 j) (kk : ∀ h1, h1 89 = h 89 → (∀ a, a ≠ 89 → a ≠ 95 → a ≠ 96 → h1 a = h a) → at_X8_bestKnot_52 G d Q (nI N) a2 (kBf v N n (3 * n)).2 (kBf v N n (3 * n)).1 (nI (3 * n)) h1) : ∀ (m i : Nat) (h1 : kM), i + m = 3 * n → h1 89 = h 89 → (∀ a, a ≠ 89 → a ≠ 95 → a ≠ 96 → h1 a = h a) → at_X8_bestKnot_52 G d Q (nI N) a2 (kBf v N n i).2 (kBf v N n i).1 (nI i) h1 := by
  have hn := hS.1.1
  intro m
  induction m with
  | zero =>
    intro i h1 hi hg ho
    have hi2 : i = 3 * n := by omega
    subst hi2
    exact kk h1 hg ho
  | succ m ih =>
    intro i h1 hi hg ho
    have e0 : (3 : Int32) * h1 89 0 = nI (3 * n) := by rw [hg, hS.1.2.2]; exact pk_mul 3 n
    have e3 : nI i / 3 = nI (i / 3) := pk_div (by omega) (by decide) (by decide)
    obtain ⟨x, x1, x2, x4, x7, xm⟩ := kMk_i hS (k := i) (by omega)
    obtain ⟨t, mm, wy, ht, hm', hwy, y1, y2, y3, y4, y5, y6, y7⟩ := hS.2.2.2.2.2.2.2.2.1 i (by omega)
    have g1 : h 89 1 = v 0 13 := by rw [hS.2.1.2.2, hS.2.1.2.1]
    refine sg_X8_bestKnot_52 hd ⟨fun z => absurd z (by rw [e0]; exact ltn (nI_lt (by omega) (by omega))), fun _ => ?_⟩
    rw [e3, mIt_3 (by omega), mOf_2 (by omega), hg, ← y7, x7, g1, nI_1]
    refine ⟨⟨okI_n (w := 3) (by omega) (by decide), okO_n (w := 2) (by omega) (by decide)⟩, fun z => ?_, fun z => ⟨okI_n (w := 3) (by omega) (by decide), fun h9 e9 => ?_⟩⟩
    · have nm : ¬ kMk v i := fun e => kb_0.mp z (xm.mp e)
      have r := ih (i + 1) h1 (by omega) hg ho
      rw [kBf_n nm] at r
      exact r
    · have hm : kMk v i := xm.mpr (kb_n0.mp z)
      rw [mLo_n (by omega), hg, hS.2.1.2.2] at e9
      have g9 : h9 89 = upd (h 89) (90 + 4 * i) (nI H) := by rw [e9, kU_eq, hg]
      have o9 : ∀ a, a ≠ 89 → a ≠ 95 → a ≠ 96 → h9 a = h a := fun a z1 z2 z3 => by rw [e9, kU_ne z1, ho a z1 z2 z3]
      have hL : kSRn (kLo v i) (h9 89) n H f w := hS.lo (by omega) kVEq.rf g9
      refine sp_X8_goI (d := d - 1) (by omega) (i0 := 0) (by omega) (by omega) (kAh.start rfl hL) (fun h11 a11 => ?_)
      rw [Nat.zero_add] at a11
      have fin : ∀ (b m : Int32) (h18 : kM), kBf v N n (i + 1) = (b, m) → h18 = kCp h11 92 89 0 0 147 → at_X8_bestKnot_52 G d Q (nI N) a2 m b (nI (i + 1)) h18 := fun b m h18 eb e18 => by
        obtain ⟨b1, b2⟩ := a11.back2 (g0 := h 89) (fun j hj => by rw [o9 92 (by decide) (by decide) (by decide)]; exact h92 j hj) (fun j hj => by rw [g9, pk_un (by omega)]) e18
        have r := ih (i + 1) h18 (by omega) b1 (fun a z1 z2 z3 => by rw [b2 a z1 z2 z3, o9 a z1 z2 z3])
        rw [eb] at r
        exact r
      have sd : ∀ {Q2 : Int32 → kM → Prop}, Q2 (kHm v N n i) h11 → Cal G (d - 1) m_X8_standing [.ref 88, .int 2] h11 Q2 := fun k => sp_X8_standing (d := d - 1) (by omega) a11.2.2 k
      refine sd ⟨fun c => sd ⟨fun _ h18 e18 => fin _ _ h18 (kBf_l hm c) e18, fun c2 => absurd c c2⟩, fun c => sd ⟨fun c2 => absurd c2 c, fun _ => sd (fun h28 e28 => fin _ _ h28 (kBf_g hm c) e28)⟩⟩
theorem mo_best (hd : 9 ≤ d) {v : kM} {n H f w N : Nat} {a2 : Int32} (hS : kSRn v (h 89) n H f w) (hN1 : 1 ≤ N) (hN : N ≤ 24) (hH : H ≤ 9999) (hv : 0 ≤ a2 ∧ a2 < 2) (k1 : (kBf v N n (3 * n)).1 = -1 → ∀ h2, (∀ a, a ≠ 92 → a ≠ 95 → a ≠ 96 → h2 a = h a) → ∀ h5, h5 = kErr h2 93 2 → Q (-1000000000 - 2) h5) (k2 : ¬ (kBf v N n (3 * n)).1 = -1 → ∀ h2, (∀ a, a ≠ 92 → a ≠ 95 → a ≠ 96 → h2 a = h a) → Q (if a2 = 0 then 10 * ((kBf v N n (3 * n)).1 / 3) + iR (kBf v N n (3 * n)).1 3 else (kBf v N n (3 * n)).2) h2) : Cal G d m_X8_bestKnot [.ref 88, .int (nI N), .int a2] h Q := by
  have hn := hS.1.1
  have hc : 1 ≤ nI N ∧ nI N ≤ 24 := ⟨nI_le (a := 1) hN1 (by omega), nI_le (b := 24) hN (by decide)⟩
  refine cg_X8_bestKnot hd ⟨fun q => absurd hc (kb_0.mp q), fun _ => ⟨fun _ h5 e5 => ?_, fun q => absurd (i1.mpr hv) (kb_0.mp q)⟩⟩
  have g5 : h5 89 = h 89 := by rw [e5, kCp_ne (by decide)]
  have o5 : ∀ a, a ≠ 92 → h5 a = h a := fun a ha => by rw [e5, kCp_ne ha]
  have c92 : ∀ j, j < 147 → h5 92 j = h5 89 j := fun j hj => by rw [g5, e5, kCp_eq, cpy0, if_pos hj]
  have hS5 : kSRn v (h5 89) n H f w := hS.congr2 g5
  refine sp_X8_goI (d := d - 1) (by omega) (i0 := 0) (by omega) (by omega) (kAh.start rfl hS5) (fun h7 a7 => ?_)
  rw [Nat.zero_add] at a7
  refine sp_X8_standing (d := d - 1) (by omega) a7.2.2 (fun h10 e10 => ?_)
  obtain ⟨b1, b2⟩ := a7.back2 (g0 := h5 89) c92 (fun _ _ => rfl) e10
  refine lp_mbest (h := h5) hd hS5 hN hH c92 (fun h11 g11 o11 => ?_) (3 * n) 0 h10 (by omega) b1 b2
  have oo : ∀ a, a ≠ 92 → a ≠ 95 → a ≠ 96 → h11 a = h a := fun a z1 z2 z3 => by
    by_cases e : a = 89
    · subst e
      rw [g11, g5]
    · rw [o11 a e z2 z3, o5 a z1]
  have e0 : (3 : Int32) * h11 89 0 = nI (3 * n) := by rw [g11, hS5.1.2.2]; exact pk_mul 3 n
  refine sg_X8_bestKnot_52 hd ⟨fun _ => ⟨fun z => ⟨fun c => ?_, fun c => ?_⟩, fun z => ⟨kin7 (n := 2) (by decide), k1 z h11 oo⟩⟩, fun z => absurd (by rw [e0]; exact nI_le (Nat.le_refl _) (by omega)) z⟩
  · have r := k2 z h11 oo
    rw [if_neg c] at r
    exact r
  · have r := k2 z h11 oo
    rw [if_pos c] at r
    exact r
/-- an error in both, the model having worked in scratch -/
theorem kRel.errS {h0 h1 h2 h3 : kM} {e : Int32} (hR : kRel h0) (e1 : h1 = kErr h0 87 e) (o : ∀ a, ¬ kScr a → h2 a = h1 a) (e3 : h3 = kErr h2 93 e) : kRel h3 := by
  refine (hR.err e).scr (fun a ha => ?_)
  have n93 : ¬ kScr 93 := by unfold kScr; omega
  rw [e3]
  by_cases q : a = 93
  · subst q
    unfold kErr
    rw [kU_eq, kU_eq, o 93 n93, e1]
    rfl
  · rw [kErr_ne q, kErr_ne q, o a ha, e1]
theorem kFs.scr {b : Nat} {h h' : kM} (q : kFs b h h') (hb : kSea b) : ∀ a, ¬ kScr a → h' a = h a := fun a ha => by
  unfold kScr at ha
  unfold kSea at hb
  exact q a (by omega) (by omega) (by omega)
theorem st_bestKnot (hd : 9 ≤ d) (hR : kRel h) (a1 a2 : Int32) : kStp G d m_X7_bestKnot m_X8_bestKnot [.int a1, .int a2] h := by
  obtain ⟨n, H, f, w, hS, hH⟩ := hR.n
  by_cases hc : 1 ≤ a1 ∧ a1 ≤ 24
  · by_cases hv : 0 ≤ a2 ∧ a2 < 2
    · obtain ⟨N, hN1, hN, rfl⟩ := iB 1 24 (by decide) hc.1 hc.2 (by decide)
      refine cg_X7_bestKnot (by omega) ⟨fun q => absurd hc (kb_0.mp q), fun _ => ⟨fun _ => ?_, fun q => absurd hv (kb_0.mp q)⟩⟩
      refine sp_X0_findBest (d := d - 1) (by omega) hS hN hH (fun h1 q1 y6 y7 => ?_)
      have q2 := q1.scr kSea_is1
      have hR1 : kRel h1 := hR.scr q2
      have o89 : h1 89 = h 89 := q1 89 (by decide) (by decide) (by decide)
      rw [y6, y7]
      by_cases hb : (kBf (kVw h 1) N n (3 * n)).1 = -1
      · rw [hb]
        refine ⟨fun z => absurd z (by decide), fun _ => ⟨kin7 (n := 2) (by decide), fun h2 e2 => ?_⟩⟩
        have g2 : h2 89 = h 89 := by rw [e2, kErr_ne (by decide), o89]
        refine mo_best (v := kVw h 1) hd (hS.congr2 g2) hN1 hN hH hv (fun _ h3 o3 h4 e4 => ⟨rfl, ?_⟩) (fun z => absurd hb z)
        exact hR1.errS e2 (fun a ha => o3 a (by unfold kScr at ha; omega) (by unfold kScr at ha; omega) (by unfold kScr at ha; omega)) e4
      · obtain ⟨j, hj, ej⟩ := (kBf_f (3 * n)).resolve_left hb
        have pos : 0 ≤ (kBf (kVw h 1) N n (3 * n)).1 := by rw [ej]; exact nI_pos' (by have := hS.1.1; omega)
        have mo : ∀ x, x = (if a2 = 0 then 10 * ((kBf (kVw h 1) N n (3 * n)).1 / 3) + iR (kBf (kVw h 1) N n (3 * n)).1 3 else (kBf (kVw h 1) N n (3 * n)).2) → Cal G d m_X8_bestKnot [.ref 88, .int (nI N), .int a2] h1 (fun y h2 => x = y ∧ kRel h2) := fun x ex =>
          mo_best (v := kVw h 1) hd (hS.congr2 o89) hN1 hN hH hv (fun z => absurd z hb) (fun _ h3 o3 => ⟨ex, hR1.scr (fun a ha => o3 a (by unfold kScr at ha; omega) (by unfold kScr at ha; omega) (by unfold kScr at ha; omega))⟩)
        exact ⟨fun _ => ⟨fun c => mo _ (if_neg c).symm, fun c => mo _ (if_pos c).symm⟩, fun z => absurd pos z⟩
    · refine cg_X7_bestKnot (by omega) ⟨fun q => absurd hc (kb_0.mp q), fun _ => ⟨fun q => absurd (kb_n0.mp q) hv, fun _ => ⟨kin7 (n := 1) (by decide), fun h1 e1 => ?_⟩⟩⟩
      exact cg_X8_bestKnot hd ⟨fun q => absurd hc (kb_0.mp q), fun _ => ⟨fun q => absurd (i1.mp (kb_n0.mp q)) hv, fun _ => ⟨kin7 (n := 1) (by decide), kErrs hR h1 e1⟩⟩⟩
  · refine cg_X7_bestKnot (by omega) ⟨fun _ => ⟨kin7 (n := 1) (by decide), fun h1 e1 => ?_⟩, fun q => absurd (kb_n0.mp q) hc⟩
    exact cg_X8_bestKnot hd ⟨fun _ => ⟨kin7 (n := 1) (by decide), kErrs hR h1 e1⟩, fun q => absurd (kb_n0.mp q) hc⟩
end Best

