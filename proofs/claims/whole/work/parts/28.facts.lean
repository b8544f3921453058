/-! facts of ships and knots: knots that are tied, prices, forces -/
section Facts
variable {G : kG} {d : Nat} {Q : Int32 → kM → Prop} {h : kM}
def kTd (L : Nat → Int32) (i : Nat) : Int32 := if L i = -1 then 1 else 0
def kTied (L : Nat → Int32) (p : Int32) : Int32 := kSum (fun j => kTd L (3 * p.toNatClampNeg + j)) 0 3
theorem kTied_n {L : Nat → Int32} {p : Nat} (hp : p < 5) : kTied L (nI p) = kSum (fun j => kTd L (3 * p + j)) 0 3 := by
  unfold kTied
  rw [nI_clamp (by omega)]
def at_X2_tiedOf_4 (G : kG) (d : Nat) (Q : Int32 → kM → Prop) (b : Nat) (v1 : Int32) (v2 : Int32) (v3 : Int32) (h : kM) : Prop := Wp G d m_X2_tiedOf (kEo G d m_X2_tiedOf Q) 4 [.ref b, .int v1, .int v2, .int v3] [] h
theorem sg_X2_tiedOf_0 {G : kG} {d : Nat} {Q : Int32 → kM → Prop} {b : Nat} {a1 : Int32} {h : kM} (hd : 1 ≤ d) (k_b : kSea b) (H :
    at_X2_tiedOf_4 G d Q b a1 (0 : Int32) (0 : Int32) h) : Wp G d m_X2_tiedOf (kEo G d m_X2_tiedOf Q) 0 [.ref b, .int a1, .null, .null] [] h := by
  refine wp_iconst (0 : Int32) 1 dX2_tiedOf_0 kiconst_0 rfl ?_
  refine wp_istore_n 2 dX2_tiedOf_1 rfl (Nat.le_of_ble_eq_true rfl) rfl ?_
  refine wp_iconst (0 : Int32) 3 dX2_tiedOf_2 kiconst_0 rfl ?_
  refine wp_istore_n 4 dX2_tiedOf_3 rfl (Nat.le_of_ble_eq_true rfl) rfl ?_
  exact H

theorem cg_X2_tiedOf {G : kG} {d : Nat} {Q : Int32 → kM → Prop} {b : Nat} {a1 : Int32} {h : kM} (hd : 1 ≤ d) (k_b : kSea b) (H :
    at_X2_tiedOf_4 G d Q b a1 (0 : Int32) (0 : Int32) h) : Cal G d m_X2_tiedOf [.ref b, .int a1] h Q :=
  Cal.of [.ref b, .int a1, .null, .null] (by decide +kernel) (Nat.le_of_ble_eq_true rfl) rfl (sg_X2_tiedOf_0 hd k_b H)

theorem sg_X2_tiedOf_4 {G : kG} {d : Nat} {Q : Int32 → kM → Prop} {b : Nat} {v1 : Int32} {v2 : Int32} {v3 : Int32} {h : kM} (hd : 1 ≤ d) (k_b : kSea b) (H :
    (((3 : Int32) ≤ v3 →
      Q v2 h
    ) ∧ (¬ ((3 : Int32) ≤ v3) →
      (vp_in (((3 : Int32) * v1) + v3) 15) ∧
      ((¬ (h (b + 8) ((((3 : Int32) * v1) + v3)).toNatClampNeg) = (-1 : Int32) →
        at_X2_tiedOf_4 G d Q b v1 v2 (v3 + (1 : Int32)) h
      ) ∧ ((h (b + 8) ((((3 : Int32) * v1) + v3)).toNatClampNeg) = (-1 : Int32) →
        at_X2_tiedOf_4 G d Q b v1 (v2 + (1 : Int32)) (v3 + (1 : Int32)) h
      ))
    ))) : at_X2_tiedOf_4 G d Q b v1 v2 v3 h := by
  show Wp G d m_X2_tiedOf (kEo G d m_X2_tiedOf Q) 4 [.ref b, .int v1, .int v2, .int v3] [] h
  refine wp_iload_n 5 dX2_tiedOf_4 rfl rfl ?_
  refine wp_iconst (3 : Int32) 6 dX2_tiedOf_5 kiconst_3 rfl ?_
  refine wp_icmp_ge 32 9 dX2_tiedOf_6 rfl rfl ⟨fun c1 => ?_, fun c1 => ?_⟩
  · replace H := H.1 c1
    refine wp_iload_n 33 dX2_tiedOf_32 rfl rfl ?_
    exact wp_reti dX2_tiedOf_33 rfl H
  · replace H := H.2 c1
    refine wp_aload_n 10 dX2_tiedOf_9 rfl rfl ?_
    refine wp_getR 8 (b + 8) 13 dX2_tiedOf_10 rfl fl_X2_33 (kSea_0 k_b) rfl rfl rfl rfl ?_
    refine wp_iconst (3 : Int32) 14 dX2_tiedOf_13 kiconst_3 rfl ?_
    refine wp_iload_n 15 dX2_tiedOf_14 rfl rfl ?_
    refine wp_imul 16 dX2_tiedOf_15 rfl ?_
    refine wp_iload_n 17 dX2_tiedOf_16 rfl rfl ?_
    refine wp_iadd 18 dX2_tiedOf_17 rfl ?_
    have c2 := H.1; replace H := H.2
    refine wp_iald 19 dX2_tiedOf_18 rfl (kSea_8 k_b) c2 ?_
    refine wp_iconst (-1 : Int32) 20 dX2_tiedOf_19 kiconst_m1 rfl ?_
    refine wp_icmp_ne 26 23 dX2_tiedOf_20 rfl rfl ⟨fun c3 => ?_, fun c3 => ?_⟩
    · replace H := H.1 c3
      refine wp_iinc (1 : Int32) 29 dX2_tiedOf_26 rfl rfl kiconst_1 (Nat.le_of_ble_eq_true rfl) rfl ?_
      refine wp_goto 4 dX2_tiedOf_29 rfl ?_
      exact H
    · replace H := H.2 c3
      refine wp_iinc (1 : Int32) 26 dX2_tiedOf_23 rfl rfl kiconst_1 (Nat.le_of_ble_eq_true rfl) rfl ?_
      refine wp_iinc (1 : Int32) 29 dX2_tiedOf_26 rfl rfl kiconst_1 (Nat.le_of_ble_eq_true rfl) rfl ?_
      refine wp_goto 4 dX2_tiedOf_29 rfl ?_
      exact H

def at_X8_tiedOf_6 (G : kG) (d : Nat) (Q : Int32 → kM → Prop)  (v1 : Int32) (v2 : Int32) (v3 : Int32) (h : kM) : Prop := Wp G d m_X8_tiedOf (kEo G d m_X8_tiedOf Q) 6 [.ref 88, .int v1, .int v2, .int v3] [] h
theorem sg_X8_tiedOf_0 {G : kG} {d : Nat} {Q : Int32 → kM → Prop}  {a1 : Int32} {h : kM} (hd : 3 ≤ d)  (H :
    at_X8_tiedOf_6 G d Q a1 (0 : Int32) ((3 : Int32) * a1) h) : Wp G d m_X8_tiedOf (kEo G d m_X8_tiedOf Q) 0 [.ref 88, .int a1, .null, .null] [] h := by
  refine wp_iconst (0 : Int32) 1 dX8_tiedOf_0 kiconst_0 rfl ?_
  refine wp_istore_n 2 dX8_tiedOf_1 rfl (Nat.le_of_ble_eq_true rfl) rfl ?_
  refine wp_iconst (3 : Int32) 3 dX8_tiedOf_2 kiconst_3 rfl ?_
  refine wp_iload_n 4 dX8_tiedOf_3 rfl rfl ?_
  refine wp_imul 5 dX8_tiedOf_4 rfl ?_
  refine wp_istore_n 6 dX8_tiedOf_5 rfl (Nat.le_of_ble_eq_true rfl) rfl ?_
  exact H

theorem cg_X8_tiedOf {G : kG} {d : Nat} {Q : Int32 → kM → Prop}  {a1 : Int32} {h : kM} (hd : 3 ≤ d)  (H :
    at_X8_tiedOf_6 G d Q a1 (0 : Int32) ((3 : Int32) * a1) h) : Cal G d m_X8_tiedOf [.ref 88, .int a1] h Q :=
  Cal.of [.ref 88, .int a1, .null, .null] (by decide +kernel) (Nat.le_of_ble_eq_true rfl) rfl (sg_X8_tiedOf_0 hd  H)

theorem sg_X8_tiedOf_6 {G : kG} {d : Nat} {Q : Int32 → kM → Prop}  {v1 : Int32} {v2 : Int32} {v3 : Int32} {h : kM} (hd : 3 ≤ d)  (H :
    (((((3 : Int32) * v1) + (3 : Int32)) ≤ v3 →
      Q v2 h
    ) ∧ (¬ ((((3 : Int32) * v1) + (3 : Int32)) ≤ v3) →
      (okI v3 3) ∧
      (((kb (mIt (h 89) v3 3 = -1)) = 0 →
        at_X8_tiedOf_6 G d Q v1 (v2 + (0 : Int32)) (v3 + (1 : Int32)) h
      ) ∧ (¬ ((kb (mIt (h 89) v3 3 = -1)) = 0) →
        at_X8_tiedOf_6 G d Q v1 (v2 + (1 : Int32)) (v3 + (1 : Int32)) h
      ))
    ))) : at_X8_tiedOf_6 G d Q v1 v2 v3 h := by
  show Wp G d m_X8_tiedOf (kEo G d m_X8_tiedOf Q) 6 [.ref 88, .int v1, .int v2, .int v3] [] h
  refine wp_iload_n 7 dX8_tiedOf_6 rfl rfl ?_
  refine wp_iconst (3 : Int32) 8 dX8_tiedOf_7 kiconst_3 rfl ?_
  refine wp_iload_n 9 dX8_tiedOf_8 rfl rfl ?_
  refine wp_imul 10 dX8_tiedOf_9 rfl ?_
  refine wp_iconst (3 : Int32) 11 dX8_tiedOf_10 kiconst_3 rfl ?_
  refine wp_iadd 12 dX8_tiedOf_11 rfl ?_
  refine wp_icmp_ge 37 15 dX8_tiedOf_12 rfl rfl ⟨fun c1 => ?_, fun c1 => ?_⟩
  · replace H := H.1 c1
    refine wp_iload_n 38 dX8_tiedOf_37 rfl rfl ?_
    exact wp_reti dX8_tiedOf_38 rfl H
  · replace H := H.2 c1
    refine wp_iload_n 16 dX8_tiedOf_15 rfl rfl ?_
    refine wp_aload_n 17 dX8_tiedOf_16 rfl rfl ?_
    refine wp_iload_n 18 dX8_tiedOf_17 rfl rfl ?_
    have c2 := H.1; replace H := H.2
    refine wp_cV (d - 1) 1 [.int v3] [.int v2] 21 dX8_tiedOf_18 rfl (lk_X8_124 rfl) (by omega) kd_88 rfl rfl rfl (Nat.le_of_ble_eq_true rfl) (sp_X8_isTied (by omega) c2 ?_)
    refine wp_if_eq 28 24 dX8_tiedOf_21 rfl rfl ⟨fun c3 => ?_, fun c3 => ?_⟩
    · replace H := H.1 c3
      refine wp_iconst (0 : Int32) 29 dX8_tiedOf_28 kiconst_0 rfl ?_
      refine wp_iadd 30 dX8_tiedOf_29 rfl ?_
      refine wp_istore_n 31 dX8_tiedOf_30 rfl (Nat.le_of_ble_eq_true rfl) rfl ?_
      refine wp_iinc (1 : Int32) 34 dX8_tiedOf_31 rfl rfl kiconst_1 (Nat.le_of_ble_eq_true rfl) rfl ?_
      refine wp_goto 6 dX8_tiedOf_34 rfl ?_
      exact H
    · replace H := H.2 c3
      refine wp_iconst (1 : Int32) 25 dX8_tiedOf_24 kiconst_1 rfl ?_
      refine wp_goto 29 dX8_tiedOf_25 rfl ?_
      refine wp_iadd 30 dX8_tiedOf_29 rfl ?_
      refine wp_istore_n 31 dX8_tiedOf_30 rfl (Nat.le_of_ble_eq_true rfl) rfl ?_
      refine wp_iinc (1 : Int32) 34 dX8_tiedOf_31 rfl rfl kiconst_1 (Nat.le_of_ble_eq_true rfl) rfl ?_
      refine wp_goto 6 dX8_tiedOf_34 rfl ?_
      exact H

theorem sp_X2_tiedOf (hd : 1 ≤ d) {b : Nat} {a : Int32} (hb : kSea b) (ha : vp_in a 5) (k : Q (kTied (h (b + 8)) a) h) : Cal G d m_X2_tiedOf [.ref b, .int a] h Q := by
  obtain ⟨p, hp, rfl⟩ := vp_in_of ha (by decide)
  rw [kTied_n hp] at k
  have lp : ∀ (m i : Nat), i + m = 3 → at_X2_tiedOf_4 G d Q b (nI p) (kSum (fun j => kTd (h (b + 8)) (3 * p + j)) 0 i) (nI i) h := by
    intro m
    induction m with
    | zero =>
      intro i hi
      have hi2 : i = 3 := by omega
      subst hi2
      exact sg_X2_tiedOf_4 hd hb ⟨fun _ => k, fun z => absurd (nI_le (Nat.le_refl 3) (by decide)) z⟩
    | succ m ih =>
      intro i hi
      have st := ih (i + 1) (by omega)
      have e1 : kSum (fun j => kTd (h (b + 8)) (3 * p + j)) 0 (i + 1) = kSum (fun j => kTd (h (b + 8)) (3 * p + j)) 0 i + kTd (h (b + 8)) (3 * p + i) := rfl
      rw [e1] at st
      refine sg_X2_tiedOf_4 hd hb ⟨fun z => absurd z (ltn (nI_lt (b := 3) (by omega) (by decide))), fun _ => ⟨by rw [ix3]; exact vp_in_nI (by omega) (by decide), ?_⟩⟩
      rw [ix3, nI_clamp (by omega), nI_1]
      refine ⟨fun z => ?_, fun z => ?_⟩
      · have e2 : kTd (h (b + 8)) (3 * p + i) = 0 := if_neg z
        rw [e2, Int32.add_zero] at st
        exact st
      · have e2 : kTd (h (b + 8)) (3 * p + i) = 1 := if_pos z
        rw [e2] at st
        exact st
  exact cg_X2_tiedOf hd hb (lp 3 0 (by omega))
theorem sp_X8_tiedOf (hd : 3 ≤ d) {v : kM} {n H f w p : Nat} (hS : kSRn v (h 89) n H f w) (hp : p < n) (k : Q (kTied (v 8) (nI p)) h) : Cal G d m_X8_tiedOf [.ref 88, .int (nI p)] h Q := by
  have hn := hS.1.1
  rw [kTied_n (by omega)] at k
  have e3 : (3 : Int32) * nI p = nI (3 * p) := pk_mul 3 p
  have e33 : (3 : Int32) * nI p + 3 = nI (3 * p + 3) := by rw [e3]; exact nI_add (3 * p) 3
  have lp : ∀ (m i : Nat), i + m = 3 → at_X8_tiedOf_6 G d Q (nI p) (kSum (fun j => kTd (v 8) (3 * p + j)) 0 i) (nI (3 * p + i)) h := by
    intro m
    induction m with
    | zero =>
      intro i hi
      have hi2 : i = 3 := by omega
      subst hi2
      exact sg_X8_tiedOf_6 hd ⟨fun _ => k, fun z => absurd (by rw [e33]; exact nI_le (Nat.le_refl _) (by omega)) z⟩
    | succ m ih =>
      intro i hi
      have st := ih (i + 1) (by omega)
      have e1 : kSum (fun j => kTd (v 8) (3 * p + j)) 0 (i + 1) = kSum (fun j => kTd (v 8) (3 * p + j)) 0 i + kTd (v 8) (3 * p + i) := rfl
      rw [e1] at st
      obtain ⟨t, mm, wy, ht, hm, hwy, x1, x2, x3, x4, x5, x6, x7⟩ := hS.2.2.2.2.2.2.2.2.1 (3 * p + i) (by omega)
      have m3 : mIt (h 89) (nI (3 * p + i)) 3 = v 8 (3 * p + i) := by rw [mIt_3 (by omega)]; exact x7.symm
      refine sg_X8_tiedOf_6 hd ⟨fun z => absurd z (by rw [e33]; exact ltn (nI_lt (by omega) (by omega))), fun _ => ⟨okI_n (w := 3) (by omega) (by decide), ?_⟩⟩
      rw [m3, nI_1]
      refine ⟨fun z => ?_, fun z => ?_⟩
      · have e2 : kTd (v 8) (3 * p + i) = 0 := if_neg (kb_0.mp z)
        rw [e2] at st
        exact st
      · have e2 : kTd (v 8) (3 * p + i) = 1 := if_pos (kb_n0.mp z)
        rw [e2] at st
        exact st
  refine cg_X8_tiedOf hd ?_
  rw [e3]
  exact lp 3 0 (by omega)
/-- a knot's price -/
def kPr (v : kM) (a : Int32) : Int32 := kHeld (if 0 < v 14 2 then kVal (v 15) (v 14 2).toNatClampNeg (v 5 a.toNatClampNeg) (v 6 a.toNatClampNeg) (kTied (v 8) (a / 3)) else v 6 a.toNatClampNeg * kTied (v 8) (a / 3)) 0 999
theorem kPr_of {v v' : kM} (e5 : v' 5 = v 5) (e6 : v' 6 = v 6) (e8 : v' 8 = v 8) (e14 : v' 14 = v 14) (e15 : v' 15 = v 15) (a : Int32) : kPr v' a = kPr v a := by
  unfold kPr
  rw [e5, e6, e8, e14, e15]
theorem kPr_eq {v v' : kM} (e : kVEq v v') (a : Int32) : kPr v' a = kPr v a :=
  kPr_of (e 5 (by decide) (by decide)) (e 6 (by decide) (by decide)) (e 8 (by decide) (by decide)) (e 14 (by decide) (by decide)) (e 15 (by decide) (by decide)) a
theorem vin3 {a : Int32} (ha : vp_in a 15) : vp_in (a / 3) 5 := by
  obtain ⟨k, hk, rfl⟩ := vp_in_of ha (by decide)
  have e : nI k / 3 = nI (k / 3) := pk_div (by omega) (by decide) (by decide)
  rw [e]
  exact vp_in_nI (by omega) (by decide)
theorem sg_X2_priceOf_0 {G : kG} {d : Nat} {Q : Int32 → kM → Prop} {b : Nat} {a1 : Int32} {h : kM} (hd : 3 ≤ d) (k_b : kSea b) (H :
    (vp_in a1 15) ∧
    (vp_in (a1 / (3 : Int32)) 5) ∧
    (((kb (0 < h (b + 14) 2)) = 0 →
      Q (kHeld ((h (b + 6) (a1).toNatClampNeg) * (kTied (h (b + 8)) (a1 / (3 : Int32)))) (0 : Int32) (999 : Int32)) h
    ) ∧ (¬ ((kb (0 < h (b + 14) 2)) = 0) →
      (vp_in a1 15) ∧
      (kTxtOk h (b + 14)) ∧
      ∀ (s7 : Nat → Int32) (h6 : kM), h6 = kIn h ((b + 14) + 2) s7 →
      Q (kHeld (kTv h (b + 14) (h (b + 5) (a1).toNatClampNeg) (h (b + 6) (a1).toNatClampNeg) (kTied (h (b + 8)) (a1 / (3 : Int32)))) (0 : Int32) (999 : Int32)) h6
    ))) : Wp G d m_X2_priceOf (kEo G d m_X2_priceOf Q) 0 [.ref b, .int a1, .null, .null, .null] [] h := by
  refine wp_aload_n 1 dX2_priceOf_0 rfl rfl ?_
  refine wp_getR 6 (b + 6) 4 dX2_priceOf_1 rfl fl_X2_27 (kSea_0 k_b) rfl rfl rfl rfl ?_
  refine wp_iload_n 5 dX2_priceOf_4 rfl rfl ?_
  have c1 := H.1; replace H := H.2
  refine wp_iald 6 dX2_priceOf_5 rfl (kSea_6 k_b) c1 ?_
  refine wp_istore_n 7 dX2_priceOf_6 rfl (Nat.le_of_ble_eq_true rfl) rfl ?_
  refine wp_aload_n 8 dX2_priceOf_7 rfl rfl ?_
  refine wp_iload_n 9 dX2_priceOf_8 rfl rfl ?_
  refine wp_iconst (3 : Int32) 10 dX2_priceOf_9 kiconst_3 rfl ?_
  refine wp_idiv 11 dX2_priceOf_10 (by decide) rfl ?_
  have c2 := H.1; replace H := H.2
  refine wp_cV (d - 1) 1 [.int (a1 / (3 : Int32))] [] 14 dX2_priceOf_11 rfl (lk_X2_93 rfl) (by omega) (kSea_0 k_b) rfl rfl rfl (Nat.le_of_ble_eq_true rfl) (sp_X2_tiedOf (by omega) k_b c2 ?_)
  refine wp_istore_n 15 dX2_priceOf_14 rfl (Nat.le_of_ble_eq_true rfl) rfl ?_
  refine wp_aload_n 16 dX2_priceOf_15 rfl rfl ?_
  refine wp_getR 14 (b + 14) 19 dX2_priceOf_16 rfl fl_X2_49 (kSea_0 k_b) rfl rfl rfl rfl ?_
  refine wp_cV (d - 1) 0 [] [] 22 dX2_priceOf_19 rfl (lk_X2_116 rfl) (by omega) (kSea_14 k_b) rfl rfl rfl (Nat.le_of_ble_eq_true rfl) (sp_X6_isThere (by omega) (kSea_txt14 k_b) ?_)
  refine wp_if_eq 43 25 dX2_priceOf_22 rfl rfl ⟨fun c3 => ?_, fun c3 => ?_⟩
  · replace H := H.1 c3
    refine wp_iload_n 44 dX2_priceOf_43 rfl rfl ?_
    refine wp_iload_n 45 dX2_priceOf_44 rfl rfl ?_
    refine wp_imul 46 dX2_priceOf_45 rfl ?_
    refine wp_istore 48 dX2_priceOf_46 rfl (Nat.le_of_ble_eq_true rfl) rfl ?_
    refine wp_iload 50 dX2_priceOf_48 rfl rfl ?_
    refine wp_iconst (0 : Int32) 51 dX2_priceOf_50 kiconst_0 rfl ?_
    refine wp_sipush (999 : Int32) 54 dX2_priceOf_51 ksipush_999 rfl ?_
    refine wp_cN (d - 1) 3 [.int ((h (b + 6) (a1).toNatClampNeg) * (kTied (h (b + 8)) (a1 / (3 : Int32)))), .int (0 : Int32), .int (999 : Int32)] [] 57 dX2_priceOf_54 rfl (lk_X2_124 rfl) (by omega) rfl rfl (Nat.le_of_ble_eq_true rfl) (sp_X7_held (by omega)  ?_)
    exact wp_reti dX2_priceOf_57 rfl H
  · replace H := H.2 c3
    refine wp_aload_n 26 dX2_priceOf_25 rfl rfl ?_
    refine wp_getR 14 (b + 14) 29 dX2_priceOf_26 rfl fl_X2_49 (kSea_0 k_b) rfl rfl rfl rfl ?_
    refine wp_aload_n 30 dX2_priceOf_29 rfl rfl ?_
    refine wp_getR 5 (b + 5) 33 dX2_priceOf_30 rfl fl_X2_24 (kSea_0 k_b) rfl rfl rfl rfl ?_
    refine wp_iload_n 34 dX2_priceOf_33 rfl rfl ?_
    have c4 := H.1; replace H := H.2
    refine wp_iald 35 dX2_priceOf_34 rfl (kSea_5 k_b) c4 ?_
    refine wp_iload_n 36 dX2_priceOf_35 rfl rfl ?_
    refine wp_iload_n 37 dX2_priceOf_36 rfl rfl ?_
    have c5 := H.1; replace H := H.2
    refine wp_cV (d - 1) 3 [.int (h (b + 5) (a1).toNatClampNeg), .int (h (b + 6) (a1).toNatClampNeg), .int (kTied (h (b + 8)) (a1 / (3 : Int32)))] [] 40 dX2_priceOf_37 rfl (lk_X2_120 rfl) (by omega) (kSea_14 k_b) rfl rfl rfl (Nat.le_of_ble_eq_true rfl) (sp_X6_value (by omega) (kSea_txt14 k_b) c5 (fun s7 h6 eh6 => ?_))
    replace H := H s7 h6 eh6
    refine wp_goto 46 dX2_priceOf_40 rfl ?_
    refine wp_istore 48 dX2_priceOf_46 rfl (Nat.le_of_ble_eq_true rfl) rfl ?_
    refine wp_iload 50 dX2_priceOf_48 rfl rfl ?_
    refine wp_iconst (0 : Int32) 51 dX2_priceOf_50 kiconst_0 rfl ?_
    refine wp_sipush (999 : Int32) 54 dX2_priceOf_51 ksipush_999 rfl ?_
    refine wp_cN (d - 1) 3 [.int (kTv h (b + 14) (h (b + 5) (a1).toNatClampNeg) (h (b + 6) (a1).toNatClampNeg) (kTied (h (b + 8)) (a1 / (3 : Int32)))), .int (0 : Int32), .int (999 : Int32)] [] 57 dX2_priceOf_54 rfl (lk_X2_124 rfl) (by omega) rfl rfl (Nat.le_of_ble_eq_true rfl) (sp_X7_held (by omega)  ?_)
    exact wp_reti dX2_priceOf_57 rfl H

theorem cg_X2_priceOf {G : kG} {d : Nat} {Q : Int32 → kM → Prop} {b : Nat} {a1 : Int32} {h : kM} (hd : 3 ≤ d) (k_b : kSea b) (H :
    (vp_in a1 15) ∧
    (vp_in (a1 / (3 : Int32)) 5) ∧
    (((kb (0 < h (b + 14) 2)) = 0 →
      Q (kHeld ((h (b + 6) (a1).toNatClampNeg) * (kTied (h (b + 8)) (a1 / (3 : Int32)))) (0 : Int32) (999 : Int32)) h
    ) ∧ (¬ ((kb (0 < h (b + 14) 2)) = 0) →
      (vp_in a1 15) ∧
      (kTxtOk h (b + 14)) ∧
      ∀ (s7 : Nat → Int32) (h6 : kM), h6 = kIn h ((b + 14) + 2) s7 →
      Q (kHeld (kTv h (b + 14) (h (b + 5) (a1).toNatClampNeg) (h (b + 6) (a1).toNatClampNeg) (kTied (h (b + 8)) (a1 / (3 : Int32)))) (0 : Int32) (999 : Int32)) h6
    ))) : Cal G d m_X2_priceOf [.ref b, .int a1] h Q :=
  Cal.of [.ref b, .int a1, .null, .null, .null] (by decide +kernel) (Nat.le_of_ble_eq_true rfl) rfl (sg_X2_priceOf_0 hd k_b H)

theorem sp_X2_priceOf (hd : 3 ≤ d) {b : Nat} {a : Int32} (hb : kSea b) (ho : vp_in a 15 ∧ kTxtOk h (b + 14)) (k : ∀ h1, kS1 b h h1 → Q (kPr (kVw h b) a) h1) : Cal G d m_X2_priceOf [.ref b, .int a] h Q := by
  obtain ⟨ha, ht⟩ := ho
  have k0 := k h kS1.rf
  have ks : ∀ s, Q (kPr (kVw h b) a) (kIn h (b + 16) s) := fun s => k _ kS1.in2
  have e14 : kVw h b 14 2 = h (b + 14) 2 := rfl
  unfold kPr at k0 ks
  rw [e14] at k0
  simp only [e14] at ks
  refine cg_X2_priceOf hd hb ⟨ha, vin3 ha, fun c => ?_, fun c => ⟨ha, ht, fun s h6 e6 => ?_⟩⟩
  · rw [if_neg (kb_0.mp c)] at k0
    exact k0
  · have k1 := ks s
    rw [if_pos (kb_n0.mp c)] at k1
    rw [e6]
    exact k1
theorem sg_X8_price_0 {G : kG} {d : Nat} {Q : Int32 → kM → Prop}  {a1 : Int32} {h : kM} (hd : 4 ≤ d)  (H :
    (okI a1 3) ∧
    ((¬ (kb (mIt (h 89) a1 3 = -1)) = 0 →
      Cal G (d - 1) m_X8_tiedOf [.ref 88, .int (a1 / (3 : Int32))] h (fun x3 h4 =>
        (okI a1 (1 : Int32)) ∧
        (vp_in (147 + 125 * (1 : Int32)) 481) ∧
        (((kb (0 < h4 89 (147 + 125 * (1 : Int32)).toNatClampNeg)) = 0 →
          Q (mHeld ((mIt (h4 89) a1 (1 : Int32)) * x3) (0 : Int32) (999 : Int32)) h4
        ) ∧ (¬ ((kb (0 < h4 89 (147 + 125 * (1 : Int32)).toNatClampNeg)) = 0) →
          (okI a1 (0 : Int32)) ∧
          ∀ h9 : kM, h9 = kU h4 95 107 (mIt (h4 89) a1 (0 : Int32)) →
          (okI a1 (1 : Int32)) ∧
          ∀ h11 : kM, h11 = kU h9 95 109 (mIt (h9 89) a1 (1 : Int32)) →
          ∀ h12 : kM, h12 = kU h11 95 110 x3 →
          Cal G (d - 1) m_X8_worked [.ref 88, .int (1 : Int32)] h12 (fun x13 h14 =>
            Q (mHeld x13 (0 : Int32) (999 : Int32)) h14
          )
        ))
      )
    ) ∧ ((kb (mIt (h 89) a1 3 = -1)) = 0 →
      Q (0 : Int32) h
    ))) : Wp G d m_X8_price (kEo G d m_X8_price Q) 0 [.ref 88, .int a1, .null, .null] [] h := by
  refine wp_aload_n 1 dX8_price_0 rfl rfl ?_
  refine wp_iload_n 2 dX8_price_1 rfl rfl ?_
  have c1 := H.1; replace H := H.2
  refine wp_cV (d - 1) 1 [.int a1] [] 5 dX8_price_2 rfl (lk_X8_124 rfl) (by omega) kd_88 rfl rfl rfl (Nat.le_of_ble_eq_true rfl) (sp_X8_isTied (by omega) c1 ?_)
  refine wp_if_ne 10 8 dX8_price_5 rfl rfl ⟨fun c2 => ?_, fun c2 => ?_⟩
  · replace H := H.1 c2
    refine wp_aload_n 11 dX8_price_10 rfl rfl ?_
    refine wp_iload_n 12 dX8_price_11 rfl rfl ?_
    refine wp_iconst (3 : Int32) 13 dX8_price_12 kiconst_3 rfl ?_
    refine wp_idiv 14 dX8_price_13 (by decide) rfl ?_
    refine wp_cV (d - 1) 1 [.int (a1 / (3 : Int32))] [] 17 dX8_price_14 rfl (lk_X8_155 rfl) (by omega) kd_88 rfl rfl rfl (Nat.le_of_ble_eq_true rfl) (H.mono (fun x3 h4 H => ?_))
    refine wp_istore_n 18 dX8_price_17 rfl (Nat.le_of_ble_eq_true rfl) rfl ?_
    refine wp_aload_n 19 dX8_price_18 rfl rfl ?_
    refine wp_iload_n 20 dX8_price_19 rfl rfl ?_
    refine wp_iconst (1 : Int32) 21 dX8_price_20 kiconst_1 rfl ?_
    have c5 := H.1; replace H := H.2
    refine wp_cV (d - 1) 2 [.int a1, .int (1 : Int32)] [] 24 dX8_price_21 rfl (lk_X8_58 rfl) (by omega) kd_88 rfl rfl rfl (Nat.le_of_ble_eq_true rfl) (sp_X8_its (by omega) c5 ?_)
    refine wp_iload_n 25 dX8_price_24 rfl rfl ?_
    refine wp_imul 26 dX8_price_25 rfl ?_
    refine wp_istore_n 27 dX8_price_26 rfl (Nat.le_of_ble_eq_true rfl) rfl ?_
    refine wp_aload_n 28 dX8_price_27 rfl rfl ?_
    refine wp_iconst (1 : Int32) 29 dX8_price_28 kiconst_1 rfl ?_
    have c6 := H.1; replace H := H.2
    refine wp_cV (d - 1) 1 [.int (1 : Int32)] [] 32 dX8_price_29 rfl (lk_X8_114 rfl) (by omega) kd_88 rfl rfl rfl (Nat.le_of_ble_eq_true rfl) (sp_X8_hasText (by omega) c6 ?_)
    refine wp_if_eq 75 35 dX8_price_32 rfl rfl ⟨fun c7 => ?_, fun c7 => ?_⟩
    · replace H := H.1 c7
      refine wp_iload_n 76 dX8_price_75 rfl rfl ?_
      refine wp_iconst (0 : Int32) 77 dX8_price_76 kiconst_0 rfl ?_
      refine wp_sipush (999 : Int32) 80 dX8_price_77 ksipush_999 rfl ?_
      refine wp_cS (d - 1) 3 [.int ((mIt (h4 89) a1 (1 : Int32)) * x3), .int (0 : Int32), .int (999 : Int32)] [] 83 dX8_price_80 rfl (lk_X8_130 rfl) (by omega) rfl rfl (Nat.le_of_ble_eq_true rfl) (sp_X8_held (by omega)  ?_)
      exact wp_reti dX8_price_83 rfl H
    · replace H := H.2 c7
      refine wp_aload_n 36 dX8_price_35 rfl rfl ?_
      refine wp_getR 7 95 39 dX8_price_36 rfl fl_X8_28 kd_88 rfl rfl rfl rfl ?_
      refine wp_bipush (107 : Int32) 41 dX8_price_39 kbipush_107 rfl ?_
      refine wp_aload_n 42 dX8_price_41 rfl rfl ?_
      refine wp_iload_n 43 dX8_price_42 rfl rfl ?_
      refine wp_iconst (0 : Int32) 44 dX8_price_43 kiconst_0 rfl ?_
      have c8 := H.1; replace H := H.2
      refine wp_cV (d - 1) 2 [.int a1, .int (0 : Int32)] [.int (107 : Int32), .ref 95] 47 dX8_price_44 rfl (lk_X8_58 rfl) (by omega) kd_88 rfl rfl rfl (Nat.le_of_ble_eq_true rfl) (sp_X8_its (by omega) c8 ?_)
      refine wp_iast 48 dX8_price_47 rfl kd_95 (by unfold vp_in; decide) ?_
      refine wp_nm (fun h9 eh9 => ?_)
      replace H := H h9 eh9
      refine wp_aload_n 49 dX8_price_48 rfl rfl ?_
      refine wp_getR 7 95 52 dX8_price_49 rfl fl_X8_28 kd_88 rfl rfl rfl rfl ?_
      refine wp_bipush (109 : Int32) 54 dX8_price_52 kbipush_109 rfl ?_
      refine wp_aload_n 55 dX8_price_54 rfl rfl ?_
      refine wp_iload_n 56 dX8_price_55 rfl rfl ?_
      refine wp_iconst (1 : Int32) 57 dX8_price_56 kiconst_1 rfl ?_
      have c10 := H.1; replace H := H.2
      refine wp_cV (d - 1) 2 [.int a1, .int (1 : Int32)] [.int (109 : Int32), .ref 95] 60 dX8_price_57 rfl (lk_X8_58 rfl) (by omega) kd_88 rfl rfl rfl (Nat.le_of_ble_eq_true rfl) (sp_X8_its (by omega) c10 ?_)
      refine wp_iast 61 dX8_price_60 rfl kd_95 (by unfold vp_in; decide) ?_
      refine wp_nm (fun h11 eh11 => ?_)
      replace H := H h11 eh11
      refine wp_aload_n 62 dX8_price_61 rfl rfl ?_
      refine wp_getR 7 95 65 dX8_price_62 rfl fl_X8_28 kd_88 rfl rfl rfl rfl ?_
      refine wp_bipush (110 : Int32) 67 dX8_price_65 kbipush_110 rfl ?_
      refine wp_iload_n 68 dX8_price_67 rfl rfl ?_
      refine wp_iast 69 dX8_price_68 rfl kd_95 (by unfold vp_in; decide) ?_
      refine wp_nm (fun h12 eh12 => ?_)
      replace H := H h12 eh12
      refine wp_aload_n 70 dX8_price_69 rfl rfl ?_
      refine wp_iconst (1 : Int32) 71 dX8_price_70 kiconst_1 rfl ?_
      refine wp_cV (d - 1) 1 [.int (1 : Int32)] [] 74 dX8_price_71 rfl (lk_X8_121 rfl) (by omega) kd_88 rfl rfl rfl (Nat.le_of_ble_eq_true rfl) (H.mono (fun x13 h14 H => ?_))
      refine wp_istore_n 75 dX8_price_74 rfl (Nat.le_of_ble_eq_true rfl) rfl ?_
      refine wp_iload_n 76 dX8_price_75 rfl rfl ?_
      refine wp_iconst (0 : Int32) 77 dX8_price_76 kiconst_0 rfl ?_
      refine wp_sipush (999 : Int32) 80 dX8_price_77 ksipush_999 rfl ?_
      refine wp_cS (d - 1) 3 [.int x13, .int (0 : Int32), .int (999 : Int32)] [] 83 dX8_price_80 rfl (lk_X8_130 rfl) (by omega) rfl rfl (Nat.le_of_ble_eq_true rfl) (sp_X8_held (by omega)  ?_)
      exact wp_reti dX8_price_83 rfl H
  · replace H := H.2 c2
    refine wp_iconst (0 : Int32) 9 dX8_price_8 kiconst_0 rfl ?_
    exact wp_reti dX8_price_9 rfl H

theorem cg_X8_price {G : kG} {d : Nat} {Q : Int32 → kM → Prop}  {a1 : Int32} {h : kM} (hd : 4 ≤ d)  (H :
    (okI a1 3) ∧
    ((¬ (kb (mIt (h 89) a1 3 = -1)) = 0 →
      Cal G (d - 1) m_X8_tiedOf [.ref 88, .int (a1 / (3 : Int32))] h (fun x3 h4 =>
        (okI a1 (1 : Int32)) ∧
        (vp_in (147 + 125 * (1 : Int32)) 481) ∧
        (((kb (0 < h4 89 (147 + 125 * (1 : Int32)).toNatClampNeg)) = 0 →
          Q (mHeld ((mIt (h4 89) a1 (1 : Int32)) * x3) (0 : Int32) (999 : Int32)) h4
        ) ∧ (¬ ((kb (0 < h4 89 (147 + 125 * (1 : Int32)).toNatClampNeg)) = 0) →
          (okI a1 (0 : Int32)) ∧
          ∀ h9 : kM, h9 = kU h4 95 107 (mIt (h4 89) a1 (0 : Int32)) →
          (okI a1 (1 : Int32)) ∧
          ∀ h11 : kM, h11 = kU h9 95 109 (mIt (h9 89) a1 (1 : Int32)) →
          ∀ h12 : kM, h12 = kU h11 95 110 x3 →
          Cal G (d - 1) m_X8_worked [.ref 88, .int (1 : Int32)] h12 (fun x13 h14 =>
            Q (mHeld x13 (0 : Int32) (999 : Int32)) h14
          )
        ))
      )
    ) ∧ ((kb (mIt (h 89) a1 3 = -1)) = 0 →
      Q (0 : Int32) h
    ))) : Cal G d m_X8_price [.ref 88, .int a1] h Q :=
  Cal.of [.ref 88, .int a1, .null, .null] (by decide +kernel) (Nat.le_of_ble_eq_true rfl) rfl (sg_X8_price_0 hd  H)

theorem sp_X8_price (hd : 4 ≤ d) {v : kM} {n H f w k : Nat} (hS : kSRn v (h 89) n H f w) (hk : k < 3 * n) (kk : ∀ h1, kS2 h h1 → Q (if v 8 k = -1 then kPr v (nI k) else 0) h1) : Cal G d m_X8_price [.ref 88, .int (nI k)] h Q := by
  obtain ⟨t, m, wy, ht, hm, hwy, x1, x2, x3, x4, x5, x6, x7⟩ := hS.2.2.2.2.2.2.2.2.1 k hk
  have hn := hS.1.1
  have hT := hS.2.2.2.2.2.2.2.2.2.2.1
  obtain ⟨tn, tl, t1, t2, t3, t4⟩ := hT
  have m3 : mIt (h 89) (nI k) 3 = v 8 k := by rw [mIt_3 (by omega)]; exact x7.symm
  have m0 : ∀ g : Nat → Int32, g = h 89 → mIt g (nI k) 0 = v 5 k := fun g hg => by rw [mIt_0 (by omega), hg, x1]; exact x2
  have m1 : ∀ g : Nat → Int32, g = h 89 → mIt g (nI k) 1 = v 6 k := fun g hg => by rw [mIt_1 (by omega), hg, x3]; exact x4
  have e3 : nI k / 3 = nI (k / 3) := pk_div (by omega) (by decide) (by decide)
  refine cg_X8_price hd ⟨okI_n (w := 3) (by omega) (by decide), ?_⟩
  rw [m3]
  refine ⟨fun c => ?_, fun c => ?_⟩
  · have c1 := kb_n0.mp c
    have kp : kPr v (nI k) = kHeld (if 0 < nI tn then kVal (v 15) (nI tn).toNatClampNeg (v 5 k) (v 6 k) (kTied (v 8) (nI (k / 3))) else v 6 k * kTied (v 8) (nI (k / 3))) 0 999 := by
      unfold kPr
      rw [e3, nI_clamp (by omega), t1]
    have kk2 : ∀ h1, kS2 h h1 → Q (kPr v (nI k)) h1 := fun h1 q1 => by
      have := kk h1 q1
      rw [if_pos c1] at this
      exact this
    rw [kp] at kk2
    rw [e3]
    refine sp_X8_tiedOf (d := d - 1) (by omega) hS (p := k / 3) (by omega) ?_
    have e272 : ((147 : Int32) + 125 * 1).toNatClampNeg = 272 := by decide
    refine ⟨okI_n (w := 1) (by omega) (by decide), by unfold vp_in; decide, ?_⟩
    rw [e272, t2, m1 _ rfl]
    by_cases hp : 0 < nI tn
    · refine ⟨fun z => absurd hp (kb_0.mp z), fun _ => ⟨okI_n (w := 0) (by omega) (by decide), fun h9 e9 => ⟨okI_n (w := 1) (by omega) (by decide), fun h11 e11 h12 e12 => ?_⟩⟩⟩
      have g9 : h9 89 = h 89 := by rw [e9, kU_ne (by decide)]
      rw [m0 _ rfl] at e9
      rw [m1 _ g9] at e11
      have g12 : h12 89 = h 89 := by rw [e12, kU_ne (by decide), e11, kU_ne (by decide), g9]
      have c95 : h12 95 = upd (upd (upd (h 95) 107 (v 5 k)) 109 (v 6 k)) 110 (kTied (v 8) (nI (k / 3))) := by rw [e12, kU_eq, e11, kU_eq, e9, kU_eq]
      refine sp_X8_worked (d := d - 1) (by omega) (u := 1) (Or.inr rfl) (b := 272) (by decide) (len := nI tn) (c := v 15) (x := v 5 k) (y := v 6 k) (z := kTied (v 8) (nI (k / 3))) ?_ hp ?_ (fun s => ?_)
      · rw [g12]
        exact ⟨tn, tl, rfl, t2, t3, t4⟩
      · unfold kNmd
        rw [if_neg (by decide), c95]
        refine ⟨?_, ?_, ?_⟩
        · rw [pk_un (by decide), pk_un (by decide), pk_us]
        · rw [pk_un (by decide), pk_us]
        · rw [pk_us]
      · have k2 := kk2 (kIn h12 96 s) (fun b x y => by rw [kIn_ne y, e12, kU_ne x, e11, kU_ne x, e9, kU_ne x])
        rw [if_pos hp] at k2
        rw [mHeld_kHeld _ _ _ (by decide)]
        exact k2
    · have k2 := kk2 h kS2.rf
      rw [if_neg hp] at k2
      refine ⟨fun _ => ?_, fun z => absurd (kb_n0.mp z) hp⟩
      rw [mHeld_kHeld _ _ _ (by decide)]
      exact k2
  · have k2 := kk h kS2.rf
    rw [if_neg (kb_0.mp c)] at k2
    exact k2
/-- a ship's worth, and what is told of a ship -/
def kWo (v : kM) (p : Nat) : Int32 := kSum (fun j => if v 8 (3 * p + j) = -1 then kPr v (nI (3 * p + j)) else 0) 0 3
def kSf (v : kM) (p : Nat) (x : Nat × Nat) (what : Int32) : Int32 := if what = 0 then nI x.1 else if what = 1 then v 4 p else if what = 2 then nI x.2 else if what = 3 then kTied (v 8) (nI p) else kWo v p
theorem kSf_of {v v' : kM} (e4 : v' 4 = v 4) (e5 : v' 5 = v 5) (e6 : v' 6 = v 6) (e8 : v' 8 = v 8) (e14 : v' 14 = v 14) (e15 : v' 15 = v 15) (p : Nat) (x : Nat × Nat) (what : Int32) : kSf v' p x what = kSf v p x what := by
  have ew : kWo v' p = kWo v p := by
    unfold kWo
    rw [e8]
    refine kSum_congr _ (fun i _ => ?_)
    rw [kPr_of e5 e6 e8 e14 e15]
  unfold kSf
  rw [e4, e8, ew]
theorem kSf_eq {v v' : kM} (e : kVEq v v') (p : Nat) (x : Nat × Nat) (what : Int32) : kSf v' p x what = kSf v p x what :=
  kSf_of (e 4 (by decide) (by decide)) (e 5 (by decide) (by decide)) (e 6 (by decide) (by decide)) (e 8 (by decide) (by decide)) (e 14 (by decide) (by decide)) (e 15 (by decide) (by decide)) p x what
theorem kSf_N {v : kM} (t p : Nat) (x : Nat × Nat) (what : Int32) : kSf (kHrN v t) p x what = kSf v p x what :=
  kSf_of (kHrN_c (by decide) (by decide) t) (kHrN_c (by decide) (by decide) t) (kHrN_c (by decide) (by decide) t) (kHrN_c (by decide) (by decide) t) (kHrN_c (by decide) (by decide) t) (kHrN_c (by decide) (by decide) t) p x what
def at_X2_worth_4 (G : kG) (d : Nat) (Q : Int32 → kM → Prop) (b : Nat) (v1 : Int32) (v2 : Int32) (v3 : Int32) (h : kM) : Prop := Wp G d m_X2_worth (kEo G d m_X2_worth Q) 4 [.ref b, .int v1, .int v2, .int v3, .null] [] h
theorem sg_X2_worth_0 {G : kG} {d : Nat} {Q : Int32 → kM → Prop} {b : Nat} {a1 : Int32} {h : kM} (hd : 4 ≤ d) (k_b : kSea b) (H :
    at_X2_worth_4 G d Q b a1 (0 : Int32) (0 : Int32) h) : Wp G d m_X2_worth (kEo G d m_X2_worth Q) 0 [.ref b, .int a1, .null, .null, .null] [] h := by
  refine wp_iconst (0 : Int32) 1 dX2_worth_0 kiconst_0 rfl ?_
  refine wp_istore_n 2 dX2_worth_1 rfl (Nat.le_of_ble_eq_true rfl) rfl ?_
  refine wp_iconst (0 : Int32) 3 dX2_worth_2 kiconst_0 rfl ?_
  refine wp_istore_n 4 dX2_worth_3 rfl (Nat.le_of_ble_eq_true rfl) rfl ?_
  exact H

theorem cg_X2_worth {G : kG} {d : Nat} {Q : Int32 → kM → Prop} {b : Nat} {a1 : Int32} {h : kM} (hd : 4 ≤ d) (k_b : kSea b) (H :
    at_X2_worth_4 G d Q b a1 (0 : Int32) (0 : Int32) h) : Cal G d m_X2_worth [.ref b, .int a1] h Q :=
  Cal.of [.ref b, .int a1, .null, .null, .null] (by decide +kernel) (Nat.le_of_ble_eq_true rfl) rfl (sg_X2_worth_0 hd k_b H)

theorem sg_X2_worth_4 {G : kG} {d : Nat} {Q : Int32 → kM → Prop} {b : Nat} {v1 : Int32} {v2 : Int32} {v3 : Int32} {h : kM} (hd : 4 ≤ d) (k_b : kSea b) (H :
    (((3 : Int32) ≤ v3 →
      Q v2 h
    ) ∧ (¬ ((3 : Int32) ≤ v3) →
      (vp_in (((3 : Int32) * v1) + v3) 15) ∧
      ((¬ (h (b + 8) ((((3 : Int32) * v1) + v3)).toNatClampNeg) = (-1 : Int32) →
        at_X2_worth_4 G d Q b v1 v2 (v3 + (1 : Int32)) h
      ) ∧ ((h (b + 8) ((((3 : Int32) * v1) + v3)).toNatClampNeg) = (-1 : Int32) →
        (vp_in (((3 : Int32) * v1) + v3) 15 ∧ kTxtOk h (b + 14)) ∧
        ∀ (h5 : kM), kS1 b h h5 →
        at_X2_worth_4 G d Q b v1 (v2 + (kPr (kVw h b) (((3 : Int32) * v1) + v3))) (v3 + (1 : Int32)) h5
      ))
    ))) : at_X2_worth_4 G d Q b v1 v2 v3 h := by
  show Wp G d m_X2_worth (kEo G d m_X2_worth Q) 4 [.ref b, .int v1, .int v2, .int v3, .null] [] h
  refine wp_iload_n 5 dX2_worth_4 rfl rfl ?_
  refine wp_iconst (3 : Int32) 6 dX2_worth_5 kiconst_3 rfl ?_
  refine wp_icmp_ge 42 9 dX2_worth_6 rfl rfl ⟨fun c1 => ?_, fun c1 => ?_⟩
  · replace H := H.1 c1
    refine wp_iload_n 43 dX2_worth_42 rfl rfl ?_
    exact wp_reti dX2_worth_43 rfl H
  · replace H := H.2 c1
    refine wp_iconst (3 : Int32) 10 dX2_worth_9 kiconst_3 rfl ?_
    refine wp_iload_n 11 dX2_worth_10 rfl rfl ?_
    refine wp_imul 12 dX2_worth_11 rfl ?_
    refine wp_iload_n 13 dX2_worth_12 rfl rfl ?_
    refine wp_iadd 14 dX2_worth_13 rfl ?_
    refine wp_istore 16 dX2_worth_14 rfl (Nat.le_of_ble_eq_true rfl) rfl ?_
    refine wp_aload_n 17 dX2_worth_16 rfl rfl ?_
    refine wp_getR 8 (b + 8) 20 dX2_worth_17 rfl fl_X2_33 (kSea_0 k_b) rfl rfl rfl rfl ?_
    refine wp_iload 22 dX2_worth_20 rfl rfl ?_
    have c2 := H.1; replace H := H.2
    refine wp_iald 23 dX2_worth_22 rfl (kSea_8 k_b) c2 ?_
    refine wp_iconst (-1 : Int32) 24 dX2_worth_23 kiconst_m1 rfl ?_
    refine wp_icmp_ne 36 27 dX2_worth_24 rfl rfl ⟨fun c3 => ?_, fun c3 => ?_⟩
    · replace H := H.1 c3
      refine wp_iinc (1 : Int32) 39 dX2_worth_36 rfl rfl kiconst_1 (Nat.le_of_ble_eq_true rfl) rfl ?_
      refine wp_goto 4 dX2_worth_39 rfl ?_
      refine wp_drop 4 ?_
      exact H
    · replace H := H.2 c3
      refine wp_iload_n 28 dX2_worth_27 rfl rfl ?_
      refine wp_aload_n 29 dX2_worth_28 rfl rfl ?_
      refine wp_iload 31 dX2_worth_29 rfl rfl ?_
      have c4 := H.1; replace H := H.2
      refine wp_cV (d - 1) 1 [.int (((3 : Int32) * v1) + v3)] [.int v2] 34 dX2_worth_31 rfl (lk_X2_102 rfl) (by omega) (kSea_0 k_b) rfl rfl rfl (Nat.le_of_ble_eq_true rfl) (sp_X2_priceOf (by omega) k_b c4 (fun h5 eh5 => ?_))
      replace H := H h5 eh5
      refine wp_iadd 35 dX2_worth_34 rfl ?_
      refine wp_istore_n 36 dX2_worth_35 rfl (Nat.le_of_ble_eq_true rfl) rfl ?_
      refine wp_iinc (1 : Int32) 39 dX2_worth_36 rfl rfl kiconst_1 (Nat.le_of_ble_eq_true rfl) rfl ?_
      refine wp_goto 4 dX2_worth_39 rfl ?_
      refine wp_drop 4 ?_
      exact H

theorem sp_X2_worth (hd : 4 ≤ d) {b p : Nat} (hb : kSea b) (hp : p < 5) (ht : kTxtOk h (b + 14)) (k : ∀ h1, kS1 b h h1 → Q (kWo (kVw h b) p) h1) : Cal G d m_X2_worth [.ref b, .int (nI p)] h Q := by
  have lp : ∀ (m i : Nat) (h1 : kM), i + m = 3 → kS1 b h h1 → at_X2_worth_4 G d Q b (nI p) (kSum (fun j => if kVw h b 8 (3 * p + j) = -1 then kPr (kVw h b) (nI (3 * p + j)) else 0) 0 i) (nI i) h1 := by
    intro m
    induction m with
    | zero =>
      intro i h1 hi q
      have hi2 : i = 3 := by omega
      subst hi2
      exact sg_X2_worth_4 hd hb ⟨fun _ => k h1 q, fun z => absurd (nI_le (Nat.le_refl 3) (by decide)) z⟩
    | succ m ih =>
      intro i h1 hi q
      have st : ∀ h2 z, kS1 b h1 h2 → z = (if kVw h b 8 (3 * p + i) = -1 then kPr (kVw h b) (nI (3 * p + i)) else 0) → at_X2_worth_4 G d Q b (nI p) (kSum (fun j => if kVw h b 8 (3 * p + j) = -1 then kPr (kVw h b) (nI (3 * p + j)) else 0) 0 i + z) (nI (i + 1)) h2 := by
        intro h2 z q2 hz
        rw [hz]
        exact ih (i + 1) h2 (by omega) (q.tr q2)
      refine sg_X2_worth_4 hd hb ⟨fun z => absurd z (ltn (nI_lt (b := 3) (by omega) (by decide))), fun _ => ⟨by rw [ix3]; exact vp_in_nI (by omega) (by decide), ?_⟩⟩
      rw [ix3, nI_clamp (by omega), nI_1, q (b + 8) (by omega) (by omega)]
      refine ⟨fun z => ?_, fun z => ⟨⟨vp_in_nI (by omega) (by decide), q.txt (Or.inr rfl) ht⟩, fun h5 q5 => ?_⟩⟩
      · have s := st h1 0 kS1.rf (if_neg z).symm
        rw [Int32.add_zero] at s
        exact s
      · rw [kPr_eq q.eq]
        exact st h5 _ q5 (if_pos z).symm
  exact cg_X2_worth hd hb (lp 3 0 h (by omega) kS1.rf)
theorem sg_X2_shipFact_0 {G : kG} {d : Nat} {Q : Int32 → kM → Prop} {b : Nat} {a1 : Int32} {a2 : Int32} {a3 : Int32} {h : kM} (hd : 5 ≤ d) (k_b : kSea b) (H :
    ((a3 = (0 : Int32) →
      Q (iR a2 64) h
    ) ∧ (¬ a3 = (0 : Int32) →
    ((a3 = (1 : Int32) →
      (vp_in a1 5) ∧
      Q (h (b + 4) (a1).toNatClampNeg) h
    ) ∧ (¬ a3 = (1 : Int32) →
    ((a3 = (2 : Int32) →
      Q (a2 / 64) h
    ) ∧ (¬ a3 = (2 : Int32) →
    ((a3 = (3 : Int32) →
      (vp_in a1 5) ∧
      Q (kTied (h (b + 8)) a1) h
    ) ∧ (¬ a3 = (3 : Int32) →
      Cal G (d - 1) m_X2_worth [.ref b, .int a1] h (fun x7 h8 =>
        Q x7 h8
      )
    ))))))))) : Wp G d m_X2_shipFact (kEo G d m_X2_shipFact Q) 0 [.ref b, .int a1, .int a2, .int a3] [] h := by
  refine wp_iload_n 1 dX2_shipFact_0 rfl rfl ?_
  refine wp_table 55 [((0 : Int32), 32), ((1 : Int32), 37), ((2 : Int32), 44), ((3 : Int32), 49)] dX2_shipFact_1 rfl (by decide) ?_
  refine ⟨fun c1 => ?_, fun c1 => ?_⟩
  · replace H := H.1 c1
    refine wp_iload_n 33 dX2_shipFact_32 rfl rfl ?_
    refine wp_cN (d - 1) 1 [.int a2] [] 36 dX2_shipFact_33 rfl (lk_X2_86 rfl) (by omega) rfl rfl (Nat.le_of_ble_eq_true rfl) (sp_X7_cellOf (by omega)  ?_)
    exact wp_reti dX2_shipFact_36 rfl H
  · replace H := H.2 c1
    refine ⟨fun c3 => ?_, fun c3 => ?_⟩
    · replace H := H.1 c3
      refine wp_aload_n 38 dX2_shipFact_37 rfl rfl ?_
      refine wp_getR 4 (b + 4) 41 dX2_shipFact_38 rfl fl_X2_21 (kSea_0 k_b) rfl rfl rfl rfl ?_
      refine wp_iload_n 42 dX2_shipFact_41 rfl rfl ?_
      have c2 := H.1; replace H := H.2
      refine wp_iald 43 dX2_shipFact_42 rfl (kSea_4 k_b) c2 ?_
      exact wp_reti dX2_shipFact_43 rfl H
    · replace H := H.2 c3
      refine ⟨fun c4 => ?_, fun c4 => ?_⟩
      · replace H := H.1 c4
        refine wp_iload_n 45 dX2_shipFact_44 rfl rfl ?_
        refine wp_cN (d - 1) 1 [.int a2] [] 48 dX2_shipFact_45 rfl (lk_X2_90 rfl) (by omega) rfl rfl (Nat.le_of_ble_eq_true rfl) (sp_X7_stateOf (by omega)  ?_)
        exact wp_reti dX2_shipFact_48 rfl H
      · replace H := H.2 c4
        refine ⟨fun c6 => ?_, fun c6 => ?_⟩
        · replace H := H.1 c6
          refine wp_aload_n 50 dX2_shipFact_49 rfl rfl ?_
          refine wp_iload_n 51 dX2_shipFact_50 rfl rfl ?_
          have c5 := H.1; replace H := H.2
          refine wp_cV (d - 1) 1 [.int a1] [] 54 dX2_shipFact_51 rfl (lk_X2_93 rfl) (by omega) (kSea_0 k_b) rfl rfl rfl (Nat.le_of_ble_eq_true rfl) (sp_X2_tiedOf (by omega) k_b c5 ?_)
          exact wp_reti dX2_shipFact_54 rfl H
        · replace H := H.2 c6
          show Wp _ _ _ _ _ _ _ _
          refine wp_aload_n 56 dX2_shipFact_55 rfl rfl ?_
          refine wp_iload_n 57 dX2_shipFact_56 rfl rfl ?_
          refine wp_cV (d - 1) 1 [.int a1] [] 60 dX2_shipFact_57 rfl (lk_X2_96 rfl) (by omega) (kSea_0 k_b) rfl rfl rfl (Nat.le_of_ble_eq_true rfl) (H.mono (fun x7 h8 H => ?_))
          exact wp_reti dX2_shipFact_60 rfl H

theorem cg_X2_shipFact {G : kG} {d : Nat} {Q : Int32 → kM → Prop} {b : Nat} {a1 : Int32} {a2 : Int32} {a3 : Int32} {h : kM} (hd : 5 ≤ d) (k_b : kSea b) (H :
    ((a3 = (0 : Int32) →
      Q (iR a2 64) h
    ) ∧ (¬ a3 = (0 : Int32) →
    ((a3 = (1 : Int32) →
      (vp_in a1 5) ∧
      Q (h (b + 4) (a1).toNatClampNeg) h
    ) ∧ (¬ a3 = (1 : Int32) →
    ((a3 = (2 : Int32) →
      Q (a2 / 64) h
    ) ∧ (¬ a3 = (2 : Int32) →
    ((a3 = (3 : Int32) →
      (vp_in a1 5) ∧
      Q (kTied (h (b + 8)) a1) h
    ) ∧ (¬ a3 = (3 : Int32) →
      Cal G (d - 1) m_X2_worth [.ref b, .int a1] h (fun x7 h8 =>
        Q x7 h8
      )
    ))))))))) : Cal G d m_X2_shipFact [.ref b, .int a1, .int a2, .int a3] h Q :=
  Cal.of [.ref b, .int a1, .int a2, .int a3] (by decide +kernel) (Nat.le_of_ble_eq_true rfl) rfl (sg_X2_shipFact_0 hd k_b H)

theorem sg_X8_toldShip_0 {G : kG} {d : Nat} {Q : Int32 → kM → Prop}  {a1 : Int32} {a2 : Int32} {h : kM} (hd : 5 ≤ d)  (H :
    (((3 : Int32) ≤ a2 →
      ((¬ a2 = (3 : Int32) →
        Cal G (d - 1) m_X8_price [.ref 88, .int ((3 : Int32) * a1)] h (fun x3 h4 =>
          Cal G (d - 1) m_X8_price [.ref 88, .int (((3 : Int32) * a1) + (1 : Int32))] h4 (fun x5 h6 =>
            Cal G (d - 1) m_X8_price [.ref 88, .int (((3 : Int32) * a1) + (2 : Int32))] h6 (fun x7 h8 =>
              Q ((x3 + x5) + x7) h8
            )
          )
        )
      ) ∧ (a2 = (3 : Int32) →
        Cal G (d - 1) m_X8_tiedOf [.ref 88, .int a1] h (fun x9 h10 =>
          Q x9 h10
        )
      ))
    ) ∧ (¬ ((3 : Int32) ≤ a2) →
      (okO a1 a2) ∧
      Q (mOf (h 89) a1 a2) h
    ))) : Wp G d m_X8_toldShip (kEo G d m_X8_toldShip Q) 0 [.ref 88, .int a1, .int a2] [] h := by
  refine wp_iload_n 1 dX8_toldShip_0 rfl rfl ?_
  refine wp_iconst (3 : Int32) 2 dX8_toldShip_1 kiconst_3 rfl ?_
  refine wp_icmp_ge 12 5 dX8_toldShip_2 rfl rfl ⟨fun c1 => ?_, fun c1 => ?_⟩
  · replace H := H.1 c1
    refine wp_iload_n 13 dX8_toldShip_12 rfl rfl ?_
    refine wp_iconst (3 : Int32) 14 dX8_toldShip_13 kiconst_3 rfl ?_
    refine wp_icmp_ne 25 17 dX8_toldShip_14 rfl rfl ⟨fun c2 => ?_, fun c2 => ?_⟩
    · replace H := H.1 c2
      refine wp_aload_n 26 dX8_toldShip_25 rfl rfl ?_
      refine wp_iconst (3 : Int32) 27 dX8_toldShip_26 kiconst_3 rfl ?_
      refine wp_iload_n 28 dX8_toldShip_27 rfl rfl ?_
      refine wp_imul 29 dX8_toldShip_28 rfl ?_
      refine wp_cV (d - 1) 1 [.int ((3 : Int32) * a1)] [] 32 dX8_toldShip_29 rfl (lk_X8_158 rfl) (by omega) kd_88 rfl rfl rfl (Nat.le_of_ble_eq_true rfl) (H.mono (fun x3 h4 H => ?_))
      refine wp_aload_n 33 dX8_toldShip_32 rfl rfl ?_
      refine wp_iconst (3 : Int32) 34 dX8_toldShip_33 kiconst_3 rfl ?_
      refine wp_iload_n 35 dX8_toldShip_34 rfl rfl ?_
      refine wp_imul 36 dX8_toldShip_35 rfl ?_
      refine wp_iconst (1 : Int32) 37 dX8_toldShip_36 kiconst_1 rfl ?_
      refine wp_iadd 38 dX8_toldShip_37 rfl ?_
      refine wp_cV (d - 1) 1 [.int (((3 : Int32) * a1) + (1 : Int32))] [.int x3] 41 dX8_toldShip_38 rfl (lk_X8_158 rfl) (by omega) kd_88 rfl rfl rfl (Nat.le_of_ble_eq_true rfl) (H.mono (fun x5 h6 H => ?_))
      refine wp_iadd 42 dX8_toldShip_41 rfl ?_
      refine wp_aload_n 43 dX8_toldShip_42 rfl rfl ?_
      refine wp_iconst (3 : Int32) 44 dX8_toldShip_43 kiconst_3 rfl ?_
      refine wp_iload_n 45 dX8_toldShip_44 rfl rfl ?_
      refine wp_imul 46 dX8_toldShip_45 rfl ?_
      refine wp_iconst (2 : Int32) 47 dX8_toldShip_46 kiconst_2 rfl ?_
      refine wp_iadd 48 dX8_toldShip_47 rfl ?_
      refine wp_cV (d - 1) 1 [.int (((3 : Int32) * a1) + (2 : Int32))] [.int (x3 + x5)] 51 dX8_toldShip_48 rfl (lk_X8_158 rfl) (by omega) kd_88 rfl rfl rfl (Nat.le_of_ble_eq_true rfl) (H.mono (fun x7 h8 H => ?_))
      refine wp_iadd 52 dX8_toldShip_51 rfl ?_
      exact wp_reti dX8_toldShip_52 rfl H
    · replace H := H.2 c2
      refine wp_aload_n 18 dX8_toldShip_17 rfl rfl ?_
      refine wp_iload_n 19 dX8_toldShip_18 rfl rfl ?_
      refine wp_cV (d - 1) 1 [.int a1] [] 22 dX8_toldShip_19 rfl (lk_X8_155 rfl) (by omega) kd_88 rfl rfl rfl (Nat.le_of_ble_eq_true rfl) (H.mono (fun x9 h10 H => ?_))
      refine wp_goto 52 dX8_toldShip_22 rfl ?_
      exact wp_reti dX8_toldShip_52 rfl H
  · replace H := H.2 c1
    refine wp_aload_n 6 dX8_toldShip_5 rfl rfl ?_
    refine wp_iload_n 7 dX8_toldShip_6 rfl rfl ?_
    refine wp_iload_n 8 dX8_toldShip_7 rfl rfl ?_
    have c11 := H.1; replace H := H.2
    refine wp_cV (d - 1) 2 [.int a1, .int a2] [] 11 dX8_toldShip_8 rfl (lk_X8_146 rfl) (by omega) kd_88 rfl rfl rfl (Nat.le_of_ble_eq_true rfl) (sp_X8_of (by omega) c11 ?_)
    exact wp_reti dX8_toldShip_11 rfl H

theorem cg_X8_toldShip {G : kG} {d : Nat} {Q : Int32 → kM → Prop}  {a1 : Int32} {a2 : Int32} {h : kM} (hd : 5 ≤ d)  (H :
    (((3 : Int32) ≤ a2 →
      ((¬ a2 = (3 : Int32) →
        Cal G (d - 1) m_X8_price [.ref 88, .int ((3 : Int32) * a1)] h (fun x3 h4 =>
          Cal G (d - 1) m_X8_price [.ref 88, .int (((3 : Int32) * a1) + (1 : Int32))] h4 (fun x5 h6 =>
            Cal G (d - 1) m_X8_price [.ref 88, .int (((3 : Int32) * a1) + (2 : Int32))] h6 (fun x7 h8 =>
              Q ((x3 + x5) + x7) h8
            )
          )
        )
      ) ∧ (a2 = (3 : Int32) →
        Cal G (d - 1) m_X8_tiedOf [.ref 88, .int a1] h (fun x9 h10 =>
          Q x9 h10
        )
      ))
    ) ∧ (¬ ((3 : Int32) ≤ a2) →
      (okO a1 a2) ∧
      Q (mOf (h 89) a1 a2) h
    ))) : Cal G d m_X8_toldShip [.ref 88, .int a1, .int a2] h Q :=
  Cal.of [.ref 88, .int a1, .int a2] (by decide +kernel) (Nat.le_of_ble_eq_true rfl) rfl (sg_X8_toldShip_0 hd  H)

theorem sp_X2_shipFact (hd : 5 ≤ d) {b p : Nat} {x : Nat × Nat} {what : Int32} (hb : kSea b) (hp : p < 5) (x1 : x.1 < 64) (x2 : x.2 < 3) (ht : kTxtOk h (b + 14)) (k : ∀ h1, kS1 b h h1 → Q (kSf (kVw h b) p x what) h1) : Cal G d m_X2_shipFact [.ref b, .int (nI p), .int (kPl x), .int what] h Q := by
  have vi : vp_in (nI p) 5 := vp_in_nI hp (by decide)
  have k0 := k h kS1.rf
  unfold kSf at k0 k
  refine cg_X2_shipFact hd hb ⟨fun e => ?_, fun e0 => ⟨fun e => ⟨vi, ?_⟩, fun e1 => ⟨fun e => ?_, fun e2 => ⟨fun e => ⟨vi, ?_⟩, fun e3 => ?_⟩⟩⟩⟩
  · rw [if_pos e] at k0
    rw [kPl_c x1 x2]
    exact k0
  · rw [if_neg e0, if_pos e] at k0
    rw [nI_clamp (by omega)]
    exact k0
  · rw [if_neg e0, if_neg e1, if_pos e] at k0
    rw [kPl_st x1 x2]
    exact k0
  · rw [if_neg e0, if_neg e1, if_neg e2, if_pos e] at k0
    exact k0
  · simp only [if_neg e0, if_neg e1, if_neg e2, if_neg e3] at k
    exact sp_X2_worth (d := d - 1) (by omega) hb hp ht k
theorem kWo_3 {v : kM} {p : Nat} : kWo v p = (if v 8 (3 * p) = -1 then kPr v (nI (3 * p)) else 0) + (if v 8 (3 * p + 1) = -1 then kPr v (nI (3 * p + 1)) else 0) + (if v 8 (3 * p + 2) = -1 then kPr v (nI (3 * p + 2)) else 0) := by
  show 0 + (if v 8 (3 * p) = -1 then kPr v (nI (3 * p)) else 0) + (if v 8 (3 * p + 1) = -1 then kPr v (nI (3 * p + 1)) else 0) + (if v 8 (3 * p + 2) = -1 then kPr v (nI (3 * p + 2)) else 0) = _
  rw [Int32.zero_add]
theorem i4 {x : Int32} : (0 ≤ x ∧ x ≤ 4) ↔ (0 ≤ x ∧ x < 5) := iM (x := x) (n := 5) (by decide)
theorem i5 {x : Int32} : (0 ≤ x ∧ x ≤ 5) ↔ (0 ≤ x ∧ x < 6) := iM (x := x) (n := 6) (by decide)
theorem sp_X8_toldShip (hd : 5 ≤ d) {v : kM} {n H f w p : Nat} {what : Int32} (hS : kSRn v (h 89) n H f w) (hp : p < n) (hw : 0 ≤ what ∧ what ≤ 4) (kk : ∀ h1, kS2 h h1 → Q (kSf v p (kXy (v 3 p)) what) h1) : Cal G d m_X8_toldShip [.ref 88, .int (nI p), .int what] h Q := by
  have hn := hS.1.1
  obtain ⟨x, x1, x2, x3, x4, x5, x6, x7, x8, x9⟩ := (hS.2.2.2.2.2.2.2.1 p hp).xy
  obtain ⟨c, -, hc, rfl⟩ := iB 0 4 (by decide) hw.1 hw.2 (by decide)
  rw [x5] at kk
  have k0 := kk h kS2.rf
  refine cg_X8_toldShip hd ⟨fun e => ⟨fun n3 => ?_, fun e3 => ?_⟩, fun e => ?_⟩
  · have hc4 : c = 4 := by
      have z1 : 3 ≤ c := (nI_leI (a := 3) (b := c) (by decide) (by omega)).mp e
      have z2 : ¬ c = 3 := fun z => n3 (by rw [z]; rfl)
      omega
    subst hc4
    have ek : kSf v p x (nI 4) = kWo v p := by
      unfold kSf
      rw [if_neg (by decide), if_neg (by decide), if_neg (by decide), if_neg (by decide)]
    rw [ek, kWo_3] at kk
    have e3 : (3 : Int32) * nI p = nI (3 * p) := pk_mul 3 p
    have e31 : nI (3 * p) + 1 = nI (3 * p + 1) := nI_1 _
    have e32 : nI (3 * p) + 2 = nI (3 * p + 2) := nI_add (3 * p) 2
    rw [e3, e31, e32]
    refine sp_X8_price (d := d - 1) (by omega) hS (k := 3 * p) (by omega) (fun h1 q1 => ?_)
    refine sp_X8_price (d := d - 1) (by omega) (hS.congr2 q1.g) (k := 3 * p + 1) (by omega) (fun h2 q2 => ?_)
    refine sp_X8_price (d := d - 1) (by omega) (hS.congr2 (q1.tr q2).g) (k := 3 * p + 2) (by omega) (fun h3 q3 => ?_)
    exact kk h3 ((q1.tr q2).tr q3)
  · have ek : kSf v p x (nI c) = kTied (v 8) (nI p) := by
      rw [e3]
      unfold kSf
      rw [if_neg (by decide), if_neg (by decide), if_neg (by decide), if_pos rfl]
    rw [ek] at k0
    exact sp_X8_tiedOf (d := d - 1) (by omega) hS hp k0
  · have hc3 : c < 3 := by
      by_cases z : c < 3
      · exact z
      · exact absurd (nI_le (a := 3) (b := c) (by omega) (by omega)) e
    refine ⟨okO_n (by omega) hc3, ?_⟩
    rw [mOf_n (by omega) hc3]
    rcases (show c = 0 ∨ c = 1 ∨ c = 2 by omega) with rfl | rfl | rfl
    · have ek : kSf v p x (nI 0) = nI x.1 := by
        unfold kSf
        rw [if_pos (by decide)]
      rw [ek, ← x6] at k0
      exact k0
    · have ek : kSf v p x (nI 1) = v 4 p := by
        unfold kSf
        rw [if_neg (by decide), if_pos (by decide)]
      rw [ek, x8, ← x9, show 73 + 3 * p = 72 + 3 * p + 1 by omega] at k0
      exact k0
    · have ek : kSf v p x (nI 2) = nI x.2 := by
        unfold kSf
        rw [if_neg (by decide), if_neg (by decide), if_pos (by decide)]
      rw [ek, ← x7, show 74 + 3 * p = 72 + 3 * p + 2 by omega] at k0
      exact k0
theorem sg_X7_shipIs_0 {G : kG} {d : Nat} {Q : Int32 → kM → Prop}  {a1 : Int32} {a2 : Int32} {h : kM} (hd : 6 ≤ d)  (H :
    (((kb (0 ≤ a1 ∧ a1 < h 1 12)) = 0 →
      (vp_in (1 : Int32) 7) ∧
      ∀ h3 : kM, h3 = kErr h 87 (1 : Int32) →
      Q (-1000000000 - (1 : Int32)) h3
    ) ∧ (¬ ((kb (0 ≤ a1 ∧ a1 < h 1 12)) = 0) →
      ((¬ (kb (0 ≤ a2 ∧ a2 < (5 : Int32))) = 0 →
        (vp_in a1 5) ∧
        Cal G (d - 1) m_X2_shipFact [.ref 1, .int a1, .int (h 4 (a1).toNatClampNeg), .int a2] h (fun x6 h7 =>
          Q x6 h7
        )
      ) ∧ ((kb (0 ≤ a2 ∧ a2 < (5 : Int32))) = 0 →
        (vp_in (1 : Int32) 7) ∧
        ∀ h9 : kM, h9 = kErr h 87 (1 : Int32) →
        Q (-1000000000 - (1 : Int32)) h9
      ))
    ))) : Wp G d m_X7_shipIs (kEo G d m_X7_shipIs Q) 0 [.ref 0, .int a1, .int a2] [] h := by
  refine wp_aload_n 1 dX7_shipIs_0 rfl rfl ?_
  refine wp_iload_n 2 dX7_shipIs_1 rfl rfl ?_
  refine wp_cV (d - 1) 1 [.int a1] [] 5 dX7_shipIs_2 rfl (lk_X7_84 rfl) (by omega) kd_0 rfl rfl rfl (Nat.le_of_ble_eq_true rfl) (sp_X7_isShip (by omega)  ?_)
  refine wp_if_eq 16 8 dX7_shipIs_5 rfl rfl ⟨fun c1 => ?_, fun c1 => ?_⟩
  · replace H := H.1 c1
    refine wp_aload_n 17 dX7_shipIs_16 rfl rfl ?_
    refine wp_iconst (1 : Int32) 18 dX7_shipIs_17 kiconst_1 rfl ?_
    have c2 := H.1; replace H := H.2
    refine wp_cV (d - 1) 1 [.int (1 : Int32)] [] 21 dX7_shipIs_18 rfl (lk_X7_62 rfl) (by omega) kd_0 rfl rfl rfl (Nat.le_of_ble_eq_true rfl) (sp_X7_error (by omega) c2 (fun h3 eh3 => ?_))
    replace H := H h3 eh3
    exact wp_reti dX7_shipIs_21 rfl H
  · replace H := H.2 c1
    refine wp_iload_n 9 dX7_shipIs_8 rfl rfl ?_
    refine wp_iconst (5 : Int32) 10 dX7_shipIs_9 kiconst_5 rfl ?_
    refine wp_cS (d - 1) 2 [.int a2, .int (5 : Int32)] [] 13 dX7_shipIs_10 rfl (lk_X7_58 rfl) (by omega) rfl rfl (Nat.le_of_ble_eq_true rfl) (sp_X7_within (by omega)  ?_)
    refine wp_if_ne 22 16 dX7_shipIs_13 rfl rfl ⟨fun c4 => ?_, fun c4 => ?_⟩
    · replace H := H.1 c4
      refine wp_aload_n 23 dX7_shipIs_22 rfl rfl ?_
      refine wp_getR 1 1 26 dX7_shipIs_23 rfl fl_X7_12 kd_0 rfl rfl rfl rfl ?_
      refine wp_iload_n 27 dX7_shipIs_26 rfl rfl ?_
      refine wp_aload_n 28 dX7_shipIs_27 rfl rfl ?_
      refine wp_getR 1 1 31 dX7_shipIs_28 rfl fl_X7_12 kd_0 rfl rfl rfl rfl ?_
      refine wp_getR 3 4 34 dX7_shipIs_31 rfl fl_X7_88 kd_1 rfl rfl rfl rfl ?_
      refine wp_iload_n 35 dX7_shipIs_34 rfl rfl ?_
      have c5 := H.1; replace H := H.2
      refine wp_iald 36 dX7_shipIs_35 rfl kd_4 c5 ?_
      refine wp_iload_n 37 dX7_shipIs_36 rfl rfl ?_
      refine wp_cV (d - 1) 3 [.int a1, .int (h 4 (a1).toNatClampNeg), .int a2] [] 40 dX7_shipIs_37 rfl (lk_X7_91 rfl) (by omega) kd_1 rfl rfl rfl (Nat.le_of_ble_eq_true rfl) (H.mono (fun x6 h7 H => ?_))
      exact wp_reti dX7_shipIs_40 rfl H
    · replace H := H.2 c4
      refine wp_aload_n 17 dX7_shipIs_16 rfl rfl ?_
      refine wp_iconst (1 : Int32) 18 dX7_shipIs_17 kiconst_1 rfl ?_
      have c8 := H.1; replace H := H.2
      refine wp_cV (d - 1) 1 [.int (1 : Int32)] [] 21 dX7_shipIs_18 rfl (lk_X7_62 rfl) (by omega) kd_0 rfl rfl rfl (Nat.le_of_ble_eq_true rfl) (sp_X7_error (by omega) c8 (fun h9 eh9 => ?_))
      replace H := H h9 eh9
      exact wp_reti dX7_shipIs_21 rfl H

theorem cg_X7_shipIs {G : kG} {d : Nat} {Q : Int32 → kM → Prop}  {a1 : Int32} {a2 : Int32} {h : kM} (hd : 6 ≤ d)  (H :
    (((kb (0 ≤ a1 ∧ a1 < h 1 12)) = 0 →
      (vp_in (1 : Int32) 7) ∧
      ∀ h3 : kM, h3 = kErr h 87 (1 : Int32) →
      Q (-1000000000 - (1 : Int32)) h3
    ) ∧ (¬ ((kb (0 ≤ a1 ∧ a1 < h 1 12)) = 0) →
      ((¬ (kb (0 ≤ a2 ∧ a2 < (5 : Int32))) = 0 →
        (vp_in a1 5) ∧
        Cal G (d - 1) m_X2_shipFact [.ref 1, .int a1, .int (h 4 (a1).toNatClampNeg), .int a2] h (fun x6 h7 =>
          Q x6 h7
        )
      ) ∧ ((kb (0 ≤ a2 ∧ a2 < (5 : Int32))) = 0 →
        (vp_in (1 : Int32) 7) ∧
        ∀ h9 : kM, h9 = kErr h 87 (1 : Int32) →
        Q (-1000000000 - (1 : Int32)) h9
      ))
    ))) : Cal G d m_X7_shipIs [.ref 0, .int a1, .int a2] h Q :=
  Cal.of [.ref 0, .int a1, .int a2] (by decide +kernel) (Nat.le_of_ble_eq_true rfl) rfl (sg_X7_shipIs_0 hd  H)

theorem sg_X8_shipIs_0 {G : kG} {d : Nat} {Q : Int32 → kM → Prop}  {a1 : Int32} {a2 : Int32} {h : kM} (hd : 6 ≤ d)  (H :
    (((kb (0 ≤ a1 ∧ a1 ≤ h 89 0 - 1)) = 0 →
      (vp_in (1 : Int32) 7) ∧
      ∀ h3 : kM, h3 = kErr h 93 (1 : Int32) →
      Q (-1000000000 - (1 : Int32)) h3
    ) ∧ (¬ ((kb (0 ≤ a1 ∧ a1 ≤ h 89 0 - 1)) = 0) →
      (((kb ((0 : Int32) ≤ a2 ∧ a2 ≤ (4 : Int32))) = 0 →
        (vp_in (1 : Int32) 7) ∧
        ∀ h6 : kM, h6 = kErr h 93 (1 : Int32) →
        Q (-1000000000 - (1 : Int32)) h6
      ) ∧ (¬ ((kb ((0 : Int32) ≤ a2 ∧ a2 ≤ (4 : Int32))) = 0) →
        Cal G (d - 1) m_X8_toldShip [.ref 88, .int a1, .int a2] h (fun x7 h8 =>
          Q x7 h8
        )
      ))
    ))) : Wp G d m_X8_shipIs (kEo G d m_X8_shipIs Q) 0 [.ref 88, .int a1, .int a2] [] h := by
  refine wp_aload_n 1 dX8_shipIs_0 rfl rfl ?_
  refine wp_iload_n 2 dX8_shipIs_1 rfl rfl ?_
  refine wp_cV (d - 1) 1 [.int a1] [] 5 dX8_shipIs_2 rfl (lk_X8_54 rfl) (by omega) kd_88 rfl rfl rfl (Nat.le_of_ble_eq_true rfl) (sp_X8_isShip (by omega)  ?_)
  refine wp_if_eq 26 8 dX8_shipIs_5 rfl rfl ⟨fun c1 => ?_, fun c1 => ?_⟩
  · replace H := H.1 c1
    refine wp_aload_n 27 dX8_shipIs_26 rfl rfl ?_
    refine wp_iconst (1 : Int32) 28 dX8_shipIs_27 kiconst_1 rfl ?_
    have c2 := H.1; replace H := H.2
    refine wp_cV (d - 1) 1 [.int (1 : Int32)] [] 31 dX8_shipIs_28 rfl (lk_X8_62 rfl) (by omega) kd_88 rfl rfl rfl (Nat.le_of_ble_eq_true rfl) (sp_X8_error (by omega) c2 (fun h3 eh3 => ?_))
    replace H := H h3 eh3
    exact wp_reti dX8_shipIs_31 rfl H
  · replace H := H.2 c1
    refine wp_iload_n 9 dX8_shipIs_8 rfl rfl ?_
    refine wp_iconst (0 : Int32) 10 dX8_shipIs_9 kiconst_0 rfl ?_
    refine wp_iconst (4 : Int32) 11 dX8_shipIs_10 kiconst_4 rfl ?_
    refine wp_cS (d - 1) 3 [.int a2, .int (0 : Int32), .int (4 : Int32)] [] 14 dX8_shipIs_11 rfl (lk_X8_50 rfl) (by omega) rfl rfl (Nat.le_of_ble_eq_true rfl) (sp_X8_in (by omega)  ?_)
    refine wp_if_eq 26 17 dX8_shipIs_14 rfl rfl ⟨fun c4 => ?_, fun c4 => ?_⟩
    · replace H := H.1 c4
      refine wp_aload_n 27 dX8_shipIs_26 rfl rfl ?_
      refine wp_iconst (1 : Int32) 28 dX8_shipIs_27 kiconst_1 rfl ?_
      have c5 := H.1; replace H := H.2
      refine wp_cV (d - 1) 1 [.int (1 : Int32)] [] 31 dX8_shipIs_28 rfl (lk_X8_62 rfl) (by omega) kd_88 rfl rfl rfl (Nat.le_of_ble_eq_true rfl) (sp_X8_error (by omega) c5 (fun h6 eh6 => ?_))
      replace H := H h6 eh6
      exact wp_reti dX8_shipIs_31 rfl H
    · replace H := H.2 c4
      refine wp_aload_n 18 dX8_shipIs_17 rfl rfl ?_
      refine wp_iload_n 19 dX8_shipIs_18 rfl rfl ?_
      refine wp_iload_n 20 dX8_shipIs_19 rfl rfl ?_
      refine wp_cV (d - 1) 2 [.int a1, .int a2] [] 23 dX8_shipIs_20 rfl (lk_X8_161 rfl) (by omega) kd_88 rfl rfl rfl (Nat.le_of_ble_eq_true rfl) (H.mono (fun x7 h8 H => ?_))
      refine wp_goto 31 dX8_shipIs_23 rfl ?_
      exact wp_reti dX8_shipIs_31 rfl H

theorem cg_X8_shipIs {G : kG} {d : Nat} {Q : Int32 → kM → Prop}  {a1 : Int32} {a2 : Int32} {h : kM} (hd : 6 ≤ d)  (H :
    (((kb (0 ≤ a1 ∧ a1 ≤ h 89 0 - 1)) = 0 →
      (vp_in (1 : Int32) 7) ∧
      ∀ h3 : kM, h3 = kErr h 93 (1 : Int32) →
      Q (-1000000000 - (1 : Int32)) h3
    ) ∧ (¬ ((kb (0 ≤ a1 ∧ a1 ≤ h 89 0 - 1)) = 0) →
      (((kb ((0 : Int32) ≤ a2 ∧ a2 ≤ (4 : Int32))) = 0 →
        (vp_in (1 : Int32) 7) ∧
        ∀ h6 : kM, h6 = kErr h 93 (1 : Int32) →
        Q (-1000000000 - (1 : Int32)) h6
      ) ∧ (¬ ((kb ((0 : Int32) ≤ a2 ∧ a2 ≤ (4 : Int32))) = 0) →
        Cal G (d - 1) m_X8_toldShip [.ref 88, .int a1, .int a2] h (fun x7 h8 =>
          Q x7 h8
        )
      ))
    ))) : Cal G d m_X8_shipIs [.ref 88, .int a1, .int a2] h Q :=
  Cal.of [.ref 88, .int a1, .int a2] (by decide +kernel) (Nat.le_of_ble_eq_true rfl) rfl (sg_X8_shipIs_0 hd  H)

theorem st_shipIs (hd : 6 ≤ d) (hR : kRel h) (a1 a2 : Int32) : kStp G d m_X7_shipIs m_X8_shipIs [.int a1, .int a2] h := by
  obtain ⟨n, H, f, w, hS, hH⟩ := hR.n
  obtain ⟨hn, n1, n2⟩ := hS.1
  have n1 : h 1 12 = nI n := n1
  by_cases hc : 0 ≤ a1 ∧ a1 < nI n
  · by_cases hv : 0 ≤ a2 ∧ a2 < 5
    · obtain ⟨p, hp, rfl⟩ := iI (n := n) (by omega) hc.1 hc.2
      have hv4 : 0 ≤ a2 ∧ a2 ≤ 4 := i4.mpr hv
      have l := kSh_pl hS hp (i := 0) (by omega)
      have l1 : h 4 p = kPl (kSh (kVw h 1) p 0) := l.1
      refine cg_X7_shipIs (by omega) ⟨fun q => absurd (by rw [n1]; exact hc) (kb_0.mp q), fun _ => ⟨fun _ => ⟨vp_in_nI (by omega) (by decide), ?_⟩, fun q => absurd hv (kb_0.mp q)⟩⟩
      rw [nI_clamp (by omega), l1]
      refine sp_X2_shipFact (d := d - 1) (by omega) kSea_is1 (by omega) l.2.1 l.2.2 hS.ok.2.2 (fun h1 q1 => ?_)
      have o89 : h1 89 = h 89 := q1 89 (by decide) (by decide)
      refine cg_X8_shipIs hd ⟨fun q => absurd (by rw [o89, n2]; exact (iM (by omega)).mpr hc) (kb_0.mp q), fun _ => ⟨fun q => absurd hv4 (kb_0.mp q), fun _ => ?_⟩⟩
      refine sp_X8_toldShip (d := d - 1) (by omega) (hS.congr2 o89) hp hv4 (fun h2 q2 => ⟨rfl, hR.scr (fun a ha => ?_)⟩)
      rw [q2 a (by unfold kScr at ha; omega) (by unfold kScr at ha; omega), q1 a (by unfold kScr at ha; omega) (by unfold kScr at ha; omega)]
    · refine cg_X7_shipIs (by omega) ⟨fun q => absurd (by rw [n1]; exact hc) (kb_0.mp q), fun _ => ⟨fun q => absurd (kb_n0.mp q) hv, fun _ => ⟨kin7 (n := 1) (by decide), fun h1 e1 => ?_⟩⟩⟩
      have x0 : h1 89 0 = nI n := by rw [e1, kErr_ne (by decide)]; exact n2
      exact cg_X8_shipIs hd ⟨fun q => absurd (by rw [x0]; exact (iM (by omega)).mpr hc) (kb_0.mp q), fun _ => ⟨fun _ => ⟨kin7 (n := 1) (by decide), kErrs hR h1 e1⟩, fun q => absurd (i4.mp (kb_n0.mp q)) hv⟩⟩
  · refine cg_X7_shipIs (by omega) ⟨fun _ => ⟨kin7 (n := 1) (by decide), fun h1 e1 => ?_⟩, fun q => absurd (by have := kb_n0.mp q; rw [n1] at this; exact this) hc⟩
    have x0 : h1 89 0 = nI n := by rw [e1, kErr_ne (by decide)]; exact n2
    exact cg_X8_shipIs hd ⟨fun _ => ⟨kin7 (n := 1) (by decide), kErrs hR h1 e1⟩, fun q => absurd ((iM (by omega)).mp (by have := kb_n0.mp q; rw [x0] at this; exact this)) hc⟩
/-- what is told of a knot -/
def kKf (v : kM) (k : Nat) (what : Int32) : Int32 := if what = 0 then v 5 k else if what = 1 then v 6 k else if what = 2 then v 7 k else if what = 3 then v 8 k else if what = 4 then kFv v k else if v 8 k = -1 then kPr v (nI k) else 0
theorem sg_X2_knotFact_0 {G : kG} {d : Nat} {Q : Int32 → kM → Prop} {b : Nat} {a1 : Int32} {a2 : Int32} {h : kM} (hd : 5 ≤ d) (k_b : kSea b) (H :
    (vp_in a1 15) ∧
    ((¬ (h (b + 8) (a1).toNatClampNeg) = (-1 : Int32) →
      ((a2 = (0 : Int32) →
        (vp_in a1 15) ∧
        Q (h (b + 5) (a1).toNatClampNeg) h
      ) ∧ (¬ a2 = (0 : Int32) →
      ((a2 = (1 : Int32) →
        (vp_in a1 15) ∧
        Q (h (b + 6) (a1).toNatClampNeg) h
      ) ∧ (¬ a2 = (1 : Int32) →
      ((a2 = (2 : Int32) →
        (vp_in a1 15) ∧
        Q (h (b + 7) (a1).toNatClampNeg) h
      ) ∧ (¬ a2 = (2 : Int32) →
      ((a2 = (3 : Int32) →
        (vp_in a1 15) ∧
        Q (h (b + 8) (a1).toNatClampNeg) h
      ) ∧ (¬ a2 = (3 : Int32) →
      ((a2 = (4 : Int32) →
        (vp_in a1 15) ∧
        (vp_in a1 15 ∧ kTxtOk h (b + 11)) ∧
        ∀ (h13 : kM), kS1 b h h13 →
        Q (kFo (kVw h b) (a1).toNatClampNeg ((h b 13) - (h (b + 8) (a1).toNatClampNeg))) h13
      ) ∧ (¬ a2 = (4 : Int32) →
        Q (0 : Int32) h
      ))))))))))
    ) ∧ ((h (b + 8) (a1).toNatClampNeg) = (-1 : Int32) →
      ((a2 = (0 : Int32) →
        (vp_in a1 15) ∧
        Q (h (b + 5) (a1).toNatClampNeg) h
      ) ∧ (¬ a2 = (0 : Int32) →
      ((a2 = (1 : Int32) →
        (vp_in a1 15) ∧
        Q (h (b + 6) (a1).toNatClampNeg) h
      ) ∧ (¬ a2 = (1 : Int32) →
      ((a2 = (2 : Int32) →
        (vp_in a1 15) ∧
        Q (h (b + 7) (a1).toNatClampNeg) h
      ) ∧ (¬ a2 = (2 : Int32) →
      ((a2 = (3 : Int32) →
        (vp_in a1 15) ∧
        Q (h (b + 8) (a1).toNatClampNeg) h
      ) ∧ (¬ a2 = (3 : Int32) →
      ((a2 = (4 : Int32) →
        Q (0 : Int32) h
      ) ∧ (¬ a2 = (4 : Int32) →
        (vp_in a1 15 ∧ kTxtOk h (b + 14)) ∧
        ∀ (h25 : kM), kS1 b h h25 →
        Q (kPr (kVw h b) a1) h25
      ))))))))))
    ))) : Wp G d m_X2_knotFact (kEo G d m_X2_knotFact Q) 0 [.ref b, .int a1, .int a2, .null] [] h := by
  refine wp_aload_n 1 dX2_knotFact_0 rfl rfl ?_
  refine wp_getR 8 (b + 8) 4 dX2_knotFact_1 rfl fl_X2_33 (kSea_0 k_b) rfl rfl rfl rfl ?_
  refine wp_iload_n 5 dX2_knotFact_4 rfl rfl ?_
  have c1 := H.1; replace H := H.2
  refine wp_iald 6 dX2_knotFact_5 rfl (kSea_8 k_b) c1 ?_
  refine wp_iconst (-1 : Int32) 7 dX2_knotFact_6 kiconst_m1 rfl ?_
  refine wp_icmp_ne 14 10 dX2_knotFact_7 rfl rfl ⟨fun c2 => ?_, fun c2 => ?_⟩
  · replace H := H.1 c2
    refine wp_iconst (0 : Int32) 15 dX2_knotFact_14 kiconst_0 rfl ?_
    refine wp_istore_n 16 dX2_knotFact_15 rfl (Nat.le_of_ble_eq_true rfl) rfl ?_
    refine wp_iload_n 17 dX2_knotFact_16 rfl rfl ?_
    refine wp_table 105 [((0 : Int32), 52), ((1 : Int32), 59), ((2 : Int32), 66), ((3 : Int32), 73), ((4 : Int32), 80)] dX2_knotFact_17 rfl (by decide) ?_
    refine ⟨fun c4 => ?_, fun c4 => ?_⟩
    · replace H := H.1 c4
      refine wp_aload_n 53 dX2_knotFact_52 rfl rfl ?_
      refine wp_getR 5 (b + 5) 56 dX2_knotFact_53 rfl fl_X2_24 (kSea_0 k_b) rfl rfl rfl rfl ?_
      refine wp_iload_n 57 dX2_knotFact_56 rfl rfl ?_
      have c3 := H.1; replace H := H.2
      refine wp_iald 58 dX2_knotFact_57 rfl (kSea_5 k_b) c3 ?_
      exact wp_reti dX2_knotFact_58 rfl H
    · replace H := H.2 c4
      refine ⟨fun c6 => ?_, fun c6 => ?_⟩
      · replace H := H.1 c6
        refine wp_aload_n 60 dX2_knotFact_59 rfl rfl ?_
        refine wp_getR 6 (b + 6) 63 dX2_knotFact_60 rfl fl_X2_27 (kSea_0 k_b) rfl rfl rfl rfl ?_
        refine wp_iload_n 64 dX2_knotFact_63 rfl rfl ?_
        have c5 := H.1; replace H := H.2
        refine wp_iald 65 dX2_knotFact_64 rfl (kSea_6 k_b) c5 ?_
        exact wp_reti dX2_knotFact_65 rfl H
      · replace H := H.2 c6
        refine ⟨fun c8 => ?_, fun c8 => ?_⟩
        · replace H := H.1 c8
          refine wp_aload_n 67 dX2_knotFact_66 rfl rfl ?_
          refine wp_getR 7 (b + 7) 70 dX2_knotFact_67 rfl fl_X2_30 (kSea_0 k_b) rfl rfl rfl rfl ?_
          refine wp_iload_n 71 dX2_knotFact_70 rfl rfl ?_
          have c7 := H.1; replace H := H.2
          refine wp_iald 72 dX2_knotFact_71 rfl (kSea_7 k_b) c7 ?_
          exact wp_reti dX2_knotFact_72 rfl H
        · replace H := H.2 c8
          refine ⟨fun c10 => ?_, fun c10 => ?_⟩
          · replace H := H.1 c10
            refine wp_aload_n 74 dX2_knotFact_73 rfl rfl ?_
            refine wp_getR 8 (b + 8) 77 dX2_knotFact_74 rfl fl_X2_33 (kSea_0 k_b) rfl rfl rfl rfl ?_
            refine wp_iload_n 78 dX2_knotFact_77 rfl rfl ?_
            have c9 := H.1; replace H := H.2
            refine wp_iald 79 dX2_knotFact_78 rfl (kSea_8 k_b) c9 ?_
            exact wp_reti dX2_knotFact_79 rfl H
          · replace H := H.2 c10
            refine ⟨fun c14 => ?_, fun c14 => ?_⟩
            · replace H := H.1 c14
              refine wp_iload_n 81 dX2_knotFact_80 rfl rfl ?_
              refine wp_if_eq 88 84 dX2_knotFact_81 rfl rfl ⟨fun c => ?_, fun c => absurd (by decide) c⟩
              refine wp_aload_n 89 dX2_knotFact_88 rfl rfl ?_
              refine wp_iload_n 90 dX2_knotFact_89 rfl rfl ?_
              refine wp_aload_n 91 dX2_knotFact_90 rfl rfl ?_
              refine wp_getI 94 dX2_knotFact_91 rfl fl_X2_69 (kSea_0 k_b) rfl ?_
              refine wp_aload_n 95 dX2_knotFact_94 rfl rfl ?_
              refine wp_getR 8 (b + 8) 98 dX2_knotFact_95 rfl fl_X2_33 (kSea_0 k_b) rfl rfl rfl rfl ?_
              refine wp_iload_n 99 dX2_knotFact_98 rfl rfl ?_
              have c11 := H.1; replace H := H.2
              refine wp_iald 100 dX2_knotFact_99 rfl (kSea_8 k_b) c11 ?_
              refine wp_isub 101 dX2_knotFact_100 rfl ?_
              have c12 := H.1; replace H := H.2
              refine wp_cV (d - 1) 2 [.int a1, .int ((h b 13) - (h (b + 8) (a1).toNatClampNeg))] [] 104 dX2_knotFact_101 rfl (lk_X2_99 rfl) (by omega) (kSea_0 k_b) rfl rfl rfl (Nat.le_of_ble_eq_true rfl) (sp_X2_force (by omega) k_b c12 (fun h13 eh13 => ?_))
              replace H := H h13 eh13
              exact wp_reti dX2_knotFact_104 rfl H
            · replace H := H.2 c14
              show Wp _ _ _ _ _ _ _ _
              refine wp_iload_n 106 dX2_knotFact_105 rfl rfl ?_
              refine wp_if_eq 117 109 dX2_knotFact_106 rfl rfl ⟨fun c => ?_, fun c => absurd (by decide) c⟩
              refine wp_iconst (0 : Int32) 118 dX2_knotFact_117 kiconst_0 rfl ?_
              exact wp_reti dX2_knotFact_118 rfl H
  · replace H := H.2 c2
    refine wp_iconst (1 : Int32) 11 dX2_knotFact_10 kiconst_1 rfl ?_
    refine wp_goto 15 dX2_knotFact_11 rfl ?_
    refine wp_istore_n 16 dX2_knotFact_15 rfl (Nat.le_of_ble_eq_true rfl) rfl ?_
    refine wp_iload_n 17 dX2_knotFact_16 rfl rfl ?_
    refine wp_table 105 [((0 : Int32), 52), ((1 : Int32), 59), ((2 : Int32), 66), ((3 : Int32), 73), ((4 : Int32), 80)] dX2_knotFact_17 rfl (by decide) ?_
    refine ⟨fun c16 => ?_, fun c16 => ?_⟩
    · replace H := H.1 c16
      refine wp_aload_n 53 dX2_knotFact_52 rfl rfl ?_
      refine wp_getR 5 (b + 5) 56 dX2_knotFact_53 rfl fl_X2_24 (kSea_0 k_b) rfl rfl rfl rfl ?_
      refine wp_iload_n 57 dX2_knotFact_56 rfl rfl ?_
      have c15 := H.1; replace H := H.2
      refine wp_iald 58 dX2_knotFact_57 rfl (kSea_5 k_b) c15 ?_
      exact wp_reti dX2_knotFact_58 rfl H
    · replace H := H.2 c16
      refine ⟨fun c18 => ?_, fun c18 => ?_⟩
      · replace H := H.1 c18
        refine wp_aload_n 60 dX2_knotFact_59 rfl rfl ?_
        refine wp_getR 6 (b + 6) 63 dX2_knotFact_60 rfl fl_X2_27 (kSea_0 k_b) rfl rfl rfl rfl ?_
        refine wp_iload_n 64 dX2_knotFact_63 rfl rfl ?_
        have c17 := H.1; replace H := H.2
        refine wp_iald 65 dX2_knotFact_64 rfl (kSea_6 k_b) c17 ?_
        exact wp_reti dX2_knotFact_65 rfl H
      · replace H := H.2 c18
        refine ⟨fun c20 => ?_, fun c20 => ?_⟩
        · replace H := H.1 c20
          refine wp_aload_n 67 dX2_knotFact_66 rfl rfl ?_
          refine wp_getR 7 (b + 7) 70 dX2_knotFact_67 rfl fl_X2_30 (kSea_0 k_b) rfl rfl rfl rfl ?_
          refine wp_iload_n 71 dX2_knotFact_70 rfl rfl ?_
          have c19 := H.1; replace H := H.2
          refine wp_iald 72 dX2_knotFact_71 rfl (kSea_7 k_b) c19 ?_
          exact wp_reti dX2_knotFact_72 rfl H
        · replace H := H.2 c20
          refine ⟨fun c22 => ?_, fun c22 => ?_⟩
          · replace H := H.1 c22
            refine wp_aload_n 74 dX2_knotFact_73 rfl rfl ?_
            refine wp_getR 8 (b + 8) 77 dX2_knotFact_74 rfl fl_X2_33 (kSea_0 k_b) rfl rfl rfl rfl ?_
            refine wp_iload_n 78 dX2_knotFact_77 rfl rfl ?_
            have c21 := H.1; replace H := H.2
            refine wp_iald 79 dX2_knotFact_78 rfl (kSea_8 k_b) c21 ?_
            exact wp_reti dX2_knotFact_79 rfl H
          · replace H := H.2 c22
            refine ⟨fun c23 => ?_, fun c23 => ?_⟩
            · replace H := H.1 c23
              refine wp_iload_n 81 dX2_knotFact_80 rfl rfl ?_
              refine wp_if_eq 88 84 dX2_knotFact_81 rfl rfl ⟨fun c => absurd c (by decide), fun c => ?_⟩
              refine wp_iconst (0 : Int32) 85 dX2_knotFact_84 kiconst_0 rfl ?_
              refine wp_goto 104 dX2_knotFact_85 rfl ?_
              exact wp_reti dX2_knotFact_104 rfl H
            · replace H := H.2 c23
              show Wp _ _ _ _ _ _ _ _
              refine wp_iload_n 106 dX2_knotFact_105 rfl rfl ?_
              refine wp_if_eq 117 109 dX2_knotFact_106 rfl rfl ⟨fun c => absurd c (by decide), fun c => ?_⟩
              refine wp_aload_n 110 dX2_knotFact_109 rfl rfl ?_
              refine wp_iload_n 111 dX2_knotFact_110 rfl rfl ?_
              have c24 := H.1; replace H := H.2
              refine wp_cV (d - 1) 1 [.int a1] [] 114 dX2_knotFact_111 rfl (lk_X2_102 rfl) (by omega) (kSea_0 k_b) rfl rfl rfl (Nat.le_of_ble_eq_true rfl) (sp_X2_priceOf (by omega) k_b c24 (fun h25 eh25 => ?_))
              replace H := H h25 eh25
              refine wp_goto 118 dX2_knotFact_114 rfl ?_
              exact wp_reti dX2_knotFact_118 rfl H

theorem cg_X2_knotFact {G : kG} {d : Nat} {Q : Int32 → kM → Prop} {b : Nat} {a1 : Int32} {a2 : Int32} {h : kM} (hd : 5 ≤ d) (k_b : kSea b) (H :
    (vp_in a1 15) ∧
    ((¬ (h (b + 8) (a1).toNatClampNeg) = (-1 : Int32) →
      ((a2 = (0 : Int32) →
        (vp_in a1 15) ∧
        Q (h (b + 5) (a1).toNatClampNeg) h
      ) ∧ (¬ a2 = (0 : Int32) →
      ((a2 = (1 : Int32) →
        (vp_in a1 15) ∧
        Q (h (b + 6) (a1).toNatClampNeg) h
      ) ∧ (¬ a2 = (1 : Int32) →
      ((a2 = (2 : Int32) →
        (vp_in a1 15) ∧
        Q (h (b + 7) (a1).toNatClampNeg) h
      ) ∧ (¬ a2 = (2 : Int32) →
      ((a2 = (3 : Int32) →
        (vp_in a1 15) ∧
        Q (h (b + 8) (a1).toNatClampNeg) h
      ) ∧ (¬ a2 = (3 : Int32) →
      ((a2 = (4 : Int32) →
        (vp_in a1 15) ∧
        (vp_in a1 15 ∧ kTxtOk h (b + 11)) ∧
        ∀ (h13 : kM), kS1 b h h13 →
        Q (kFo (kVw h b) (a1).toNatClampNeg ((h b 13) - (h (b + 8) (a1).toNatClampNeg))) h13
      ) ∧ (¬ a2 = (4 : Int32) →
        Q (0 : Int32) h
      ))))))))))
    ) ∧ ((h (b + 8) (a1).toNatClampNeg) = (-1 : Int32) →
      ((a2 = (0 : Int32) →
        (vp_in a1 15) ∧
        Q (h (b + 5) (a1).toNatClampNeg) h
      ) ∧ (¬ a2 = (0 : Int32) →
      ((a2 = (1 : Int32) →
        (vp_in a1 15) ∧
        Q (h (b + 6) (a1).toNatClampNeg) h
      ) ∧ (¬ a2 = (1 : Int32) →
      ((a2 = (2 : Int32) →
        (vp_in a1 15) ∧
        Q (h (b + 7) (a1).toNatClampNeg) h
      ) ∧ (¬ a2 = (2 : Int32) →
      ((a2 = (3 : Int32) →
        (vp_in a1 15) ∧
        Q (h (b + 8) (a1).toNatClampNeg) h
      ) ∧ (¬ a2 = (3 : Int32) →
      ((a2 = (4 : Int32) →
        Q (0 : Int32) h
      ) ∧ (¬ a2 = (4 : Int32) →
        (vp_in a1 15 ∧ kTxtOk h (b + 14)) ∧
        ∀ (h25 : kM), kS1 b h h25 →
        Q (kPr (kVw h b) a1) h25
      ))))))))))
    ))) : Cal G d m_X2_knotFact [.ref b, .int a1, .int a2] h Q :=
  Cal.of [.ref b, .int a1, .int a2, .null] (by decide +kernel) (Nat.le_of_ble_eq_true rfl) rfl (sg_X2_knotFact_0 hd k_b H)

theorem sg_X7_knotIs_0 {G : kG} {d : Nat} {Q : Int32 → kM → Prop}  {a1 : Int32} {a2 : Int32} {a3 : Int32} {h : kM} (hd : 6 ≤ d)  (H :
    (((kb ((0 ≤ a1 ∧ a1 < h 1 12) ∧ (0 ≤ a2 ∧ a2 < 3))) = 0 →
      (vp_in (1 : Int32) 7) ∧
      ∀ h3 : kM, h3 = kErr h 87 (1 : Int32) →
      Q (-1000000000 - (1 : Int32)) h3
    ) ∧ (¬ ((kb ((0 ≤ a1 ∧ a1 < h 1 12) ∧ (0 ≤ a2 ∧ a2 < 3))) = 0) →
      ((¬ (kb (0 ≤ a3 ∧ a3 < (6 : Int32))) = 0 →
        Cal G (d - 1) m_X2_knotFact [.ref 1, .int (((3 : Int32) * a1) + a2), .int a3] h (fun x5 h6 =>
          Q x5 h6
        )
      ) ∧ ((kb (0 ≤ a3 ∧ a3 < (6 : Int32))) = 0 →
        (vp_in (1 : Int32) 7) ∧
        ∀ h8 : kM, h8 = kErr h 87 (1 : Int32) →
        Q (-1000000000 - (1 : Int32)) h8
      ))
    ))) : Wp G d m_X7_knotIs (kEo G d m_X7_knotIs Q) 0 [.ref 0, .int a1, .int a2, .int a3] [] h := by
  refine wp_aload_n 1 dX7_knotIs_0 rfl rfl ?_
  refine wp_iload_n 2 dX7_knotIs_1 rfl rfl ?_
  refine wp_iload_n 3 dX7_knotIs_2 rfl rfl ?_
  refine wp_cV (d - 1) 2 [.int a1, .int a2] [] 6 dX7_knotIs_3 rfl (lk_X7_104 rfl) (by omega) kd_0 rfl rfl rfl (Nat.le_of_ble_eq_true rfl) (sp_X7_isKnot (by omega)  ?_)
  refine wp_if_eq 18 9 dX7_knotIs_6 rfl rfl ⟨fun c1 => ?_, fun c1 => ?_⟩
  · replace H := H.1 c1
    refine wp_aload_n 19 dX7_knotIs_18 rfl rfl ?_
    refine wp_iconst (1 : Int32) 20 dX7_knotIs_19 kiconst_1 rfl ?_
    have c2 := H.1; replace H := H.2
    refine wp_cV (d - 1) 1 [.int (1 : Int32)] [] 23 dX7_knotIs_20 rfl (lk_X7_62 rfl) (by omega) kd_0 rfl rfl rfl (Nat.le_of_ble_eq_true rfl) (sp_X7_error (by omega) c2 (fun h3 eh3 => ?_))
    replace H := H h3 eh3
    exact wp_reti dX7_knotIs_23 rfl H
  · replace H := H.2 c1
    refine wp_iload_n 10 dX7_knotIs_9 rfl rfl ?_
    refine wp_bipush (6 : Int32) 12 dX7_knotIs_10 kbipush_6 rfl ?_
    refine wp_cS (d - 1) 2 [.int a3, .int (6 : Int32)] [] 15 dX7_knotIs_12 rfl (lk_X7_58 rfl) (by omega) rfl rfl (Nat.le_of_ble_eq_true rfl) (sp_X7_within (by omega)  ?_)
    refine wp_if_ne 24 18 dX7_knotIs_15 rfl rfl ⟨fun c4 => ?_, fun c4 => ?_⟩
    · replace H := H.1 c4
      refine wp_aload_n 25 dX7_knotIs_24 rfl rfl ?_
      refine wp_getR 1 1 28 dX7_knotIs_25 rfl fl_X7_12 kd_0 rfl rfl rfl rfl ?_
      refine wp_iconst (3 : Int32) 29 dX7_knotIs_28 kiconst_3 rfl ?_
      refine wp_iload_n 30 dX7_knotIs_29 rfl rfl ?_
      refine wp_imul 31 dX7_knotIs_30 rfl ?_
      refine wp_iload_n 32 dX7_knotIs_31 rfl rfl ?_
      refine wp_iadd 33 dX7_knotIs_32 rfl ?_
      refine wp_iload_n 34 dX7_knotIs_33 rfl rfl ?_
      refine wp_cV (d - 1) 2 [.int (((3 : Int32) * a1) + a2), .int a3] [] 37 dX7_knotIs_34 rfl (lk_X7_120 rfl) (by omega) kd_1 rfl rfl rfl (Nat.le_of_ble_eq_true rfl) (H.mono (fun x5 h6 H => ?_))
      exact wp_reti dX7_knotIs_37 rfl H
    · replace H := H.2 c4
      refine wp_aload_n 19 dX7_knotIs_18 rfl rfl ?_
      refine wp_iconst (1 : Int32) 20 dX7_knotIs_19 kiconst_1 rfl ?_
      have c7 := H.1; replace H := H.2
      refine wp_cV (d - 1) 1 [.int (1 : Int32)] [] 23 dX7_knotIs_20 rfl (lk_X7_62 rfl) (by omega) kd_0 rfl rfl rfl (Nat.le_of_ble_eq_true rfl) (sp_X7_error (by omega) c7 (fun h8 eh8 => ?_))
      replace H := H h8 eh8
      exact wp_reti dX7_knotIs_23 rfl H

theorem cg_X7_knotIs {G : kG} {d : Nat} {Q : Int32 → kM → Prop}  {a1 : Int32} {a2 : Int32} {a3 : Int32} {h : kM} (hd : 6 ≤ d)  (H :
    (((kb ((0 ≤ a1 ∧ a1 < h 1 12) ∧ (0 ≤ a2 ∧ a2 < 3))) = 0 →
      (vp_in (1 : Int32) 7) ∧
      ∀ h3 : kM, h3 = kErr h 87 (1 : Int32) →
      Q (-1000000000 - (1 : Int32)) h3
    ) ∧ (¬ ((kb ((0 ≤ a1 ∧ a1 < h 1 12) ∧ (0 ≤ a2 ∧ a2 < 3))) = 0) →
      ((¬ (kb (0 ≤ a3 ∧ a3 < (6 : Int32))) = 0 →
        Cal G (d - 1) m_X2_knotFact [.ref 1, .int (((3 : Int32) * a1) + a2), .int a3] h (fun x5 h6 =>
          Q x5 h6
        )
      ) ∧ ((kb (0 ≤ a3 ∧ a3 < (6 : Int32))) = 0 →
        (vp_in (1 : Int32) 7) ∧
        ∀ h8 : kM, h8 = kErr h 87 (1 : Int32) →
        Q (-1000000000 - (1 : Int32)) h8
      ))
    ))) : Cal G d m_X7_knotIs [.ref 0, .int a1, .int a2, .int a3] h Q :=
  Cal.of [.ref 0, .int a1, .int a2, .int a3] (by decide +kernel) (Nat.le_of_ble_eq_true rfl) rfl (sg_X7_knotIs_0 hd  H)

theorem sg_X8_knotIs_0 {G : kG} {d : Nat} {Q : Int32 → kM → Prop}  {a1 : Int32} {a2 : Int32} {a3 : Int32} {h : kM} (hd : 6 ≤ d)  (H :
    (((kb ((0 ≤ a1 ∧ a1 ≤ h 89 0 - 1) ∧ (0 ≤ a2 ∧ a2 ≤ 2))) = 0 →
      (vp_in (1 : Int32) 7) ∧
      ∀ h3 : kM, h3 = kErr h 93 (1 : Int32) →
      Q (-1000000000 - (1 : Int32)) h3
    ) ∧ (¬ ((kb ((0 ≤ a1 ∧ a1 ≤ h 89 0 - 1) ∧ (0 ≤ a2 ∧ a2 ≤ 2))) = 0) →
      ((¬ (kb ((0 : Int32) ≤ a3 ∧ a3 ≤ (5 : Int32))) = 0 →
        (((4 : Int32) ≤ a3 →
          ((¬ a3 = (4 : Int32) →
            Cal G (d - 1) m_X8_price [.ref 88, .int (((3 : Int32) * a1) + a2)] h (fun x7 h8 =>
              Q x7 h8
            )
          ) ∧ (a3 = (4 : Int32) →
            Cal G (d - 1) m_X8_force [.ref 88, .int (((3 : Int32) * a1) + a2)] h (fun x9 h10 =>
              Q x9 h10
            )
          ))
        ) ∧ (¬ ((4 : Int32) ≤ a3) →
          (okI (((3 : Int32) * a1) + a2) a3) ∧
          Q (mIt (h 89) (((3 : Int32) * a1) + a2) a3) h
        ))
      ) ∧ ((kb ((0 : Int32) ≤ a3 ∧ a3 ≤ (5 : Int32))) = 0 →
        (vp_in (1 : Int32) 7) ∧
        ∀ h13 : kM, h13 = kErr h 93 (1 : Int32) →
        Q (-1000000000 - (1 : Int32)) h13
      ))
    ))) : Wp G d m_X8_knotIs (kEo G d m_X8_knotIs Q) 0 [.ref 88, .int a1, .int a2, .int a3, .null] [] h := by
  refine wp_aload_n 1 dX8_knotIs_0 rfl rfl ?_
  refine wp_iload_n 2 dX8_knotIs_1 rfl rfl ?_
  refine wp_iload_n 3 dX8_knotIs_2 rfl rfl ?_
  refine wp_cV (d - 1) 2 [.int a1, .int a2] [] 6 dX8_knotIs_3 rfl (lk_X8_164 rfl) (by omega) kd_88 rfl rfl rfl (Nat.le_of_ble_eq_true rfl) (sp_X8_isKnot (by omega)  ?_)
  refine wp_if_eq 18 9 dX8_knotIs_6 rfl rfl ⟨fun c1 => ?_, fun c1 => ?_⟩
  · replace H := H.1 c1
    refine wp_aload_n 19 dX8_knotIs_18 rfl rfl ?_
    refine wp_iconst (1 : Int32) 20 dX8_knotIs_19 kiconst_1 rfl ?_
    have c2 := H.1; replace H := H.2
    refine wp_cV (d - 1) 1 [.int (1 : Int32)] [] 23 dX8_knotIs_20 rfl (lk_X8_62 rfl) (by omega) kd_88 rfl rfl rfl (Nat.le_of_ble_eq_true rfl) (sp_X8_error (by omega) c2 (fun h3 eh3 => ?_))
    replace H := H h3 eh3
    exact wp_reti dX8_knotIs_23 rfl H
  · replace H := H.2 c1
    refine wp_iload_n 10 dX8_knotIs_9 rfl rfl ?_
    refine wp_iconst (0 : Int32) 11 dX8_knotIs_10 kiconst_0 rfl ?_
    refine wp_iconst (5 : Int32) 12 dX8_knotIs_11 kiconst_5 rfl ?_
    refine wp_cS (d - 1) 3 [.int a3, .int (0 : Int32), .int (5 : Int32)] [] 15 dX8_knotIs_12 rfl (lk_X8_50 rfl) (by omega) rfl rfl (Nat.le_of_ble_eq_true rfl) (sp_X8_in (by omega)  ?_)
    refine wp_if_ne 24 18 dX8_knotIs_15 rfl rfl ⟨fun c4 => ?_, fun c4 => ?_⟩
    · replace H := H.1 c4
      refine wp_iconst (3 : Int32) 25 dX8_knotIs_24 kiconst_3 rfl ?_
      refine wp_iload_n 26 dX8_knotIs_25 rfl rfl ?_
      refine wp_imul 27 dX8_knotIs_26 rfl ?_
      refine wp_iload_n 28 dX8_knotIs_27 rfl rfl ?_
      refine wp_iadd 29 dX8_knotIs_28 rfl ?_
      refine wp_istore 31 dX8_knotIs_29 rfl (Nat.le_of_ble_eq_true rfl) rfl ?_
      refine wp_iload_n 32 dX8_knotIs_31 rfl rfl ?_
      refine wp_iconst (4 : Int32) 33 dX8_knotIs_32 kiconst_4 rfl ?_
      refine wp_icmp_ge 46 36 dX8_knotIs_33 rfl rfl ⟨fun c5 => ?_, fun c5 => ?_⟩
      · replace H := H.1 c5
        refine wp_iload_n 47 dX8_knotIs_46 rfl rfl ?_
        refine wp_iconst (4 : Int32) 48 dX8_knotIs_47 kiconst_4 rfl ?_
        refine wp_icmp_ne 60 51 dX8_knotIs_48 rfl rfl ⟨fun c6 => ?_, fun c6 => ?_⟩
        · replace H := H.1 c6
          refine wp_aload_n 61 dX8_knotIs_60 rfl rfl ?_
          refine wp_iload 63 dX8_knotIs_61 rfl rfl ?_
          refine wp_cV (d - 1) 1 [.int (((3 : Int32) * a1) + a2)] [] 66 dX8_knotIs_63 rfl (lk_X8_158 rfl) (by omega) kd_88 rfl rfl rfl (Nat.le_of_ble_eq_true rfl) (H.mono (fun x7 h8 H => ?_))
          exact wp_reti dX8_knotIs_66 rfl H
        · replace H := H.2 c6
          refine wp_aload_n 52 dX8_knotIs_51 rfl rfl ?_
          refine wp_iload 54 dX8_knotIs_52 rfl rfl ?_
          refine wp_cV (d - 1) 1 [.int (((3 : Int32) * a1) + a2)] [] 57 dX8_knotIs_54 rfl (lk_X8_133 rfl) (by omega) kd_88 rfl rfl rfl (Nat.le_of_ble_eq_true rfl) (H.mono (fun x9 h10 H => ?_))
          refine wp_goto 66 dX8_knotIs_57 rfl ?_
          exact wp_reti dX8_knotIs_66 rfl H
      · replace H := H.2 c5
        refine wp_aload_n 37 dX8_knotIs_36 rfl rfl ?_
        refine wp_iload 39 dX8_knotIs_37 rfl rfl ?_
        refine wp_iload_n 40 dX8_knotIs_39 rfl rfl ?_
        have c11 := H.1; replace H := H.2
        refine wp_cV (d - 1) 2 [.int (((3 : Int32) * a1) + a2), .int a3] [] 43 dX8_knotIs_40 rfl (lk_X8_58 rfl) (by omega) kd_88 rfl rfl rfl (Nat.le_of_ble_eq_true rfl) (sp_X8_its (by omega) c11 ?_)
        refine wp_goto 66 dX8_knotIs_43 rfl ?_
        exact wp_reti dX8_knotIs_66 rfl H
    · replace H := H.2 c4
      refine wp_aload_n 19 dX8_knotIs_18 rfl rfl ?_
      refine wp_iconst (1 : Int32) 20 dX8_knotIs_19 kiconst_1 rfl ?_
      have c12 := H.1; replace H := H.2
      refine wp_cV (d - 1) 1 [.int (1 : Int32)] [] 23 dX8_knotIs_20 rfl (lk_X8_62 rfl) (by omega) kd_88 rfl rfl rfl (Nat.le_of_ble_eq_true rfl) (sp_X8_error (by omega) c12 (fun h13 eh13 => ?_))
      replace H := H h13 eh13
      exact wp_reti dX8_knotIs_23 rfl H

theorem cg_X8_knotIs {G : kG} {d : Nat} {Q : Int32 → kM → Prop}  {a1 : Int32} {a2 : Int32} {a3 : Int32} {h : kM} (hd : 6 ≤ d)  (H :
    (((kb ((0 ≤ a1 ∧ a1 ≤ h 89 0 - 1) ∧ (0 ≤ a2 ∧ a2 ≤ 2))) = 0 →
      (vp_in (1 : Int32) 7) ∧
      ∀ h3 : kM, h3 = kErr h 93 (1 : Int32) →
      Q (-1000000000 - (1 : Int32)) h3
    ) ∧ (¬ ((kb ((0 ≤ a1 ∧ a1 ≤ h 89 0 - 1) ∧ (0 ≤ a2 ∧ a2 ≤ 2))) = 0) →
      ((¬ (kb ((0 : Int32) ≤ a3 ∧ a3 ≤ (5 : Int32))) = 0 →
        (((4 : Int32) ≤ a3 →
          ((¬ a3 = (4 : Int32) →
            Cal G (d - 1) m_X8_price [.ref 88, .int (((3 : Int32) * a1) + a2)] h (fun x7 h8 =>
              Q x7 h8
            )
          ) ∧ (a3 = (4 : Int32) →
            Cal G (d - 1) m_X8_force [.ref 88, .int (((3 : Int32) * a1) + a2)] h (fun x9 h10 =>
              Q x9 h10
            )
          ))
        ) ∧ (¬ ((4 : Int32) ≤ a3) →
          (okI (((3 : Int32) * a1) + a2) a3) ∧
          Q (mIt (h 89) (((3 : Int32) * a1) + a2) a3) h
        ))
      ) ∧ ((kb ((0 : Int32) ≤ a3 ∧ a3 ≤ (5 : Int32))) = 0 →
        (vp_in (1 : Int32) 7) ∧
        ∀ h13 : kM, h13 = kErr h 93 (1 : Int32) →
        Q (-1000000000 - (1 : Int32)) h13
      ))
    ))) : Cal G d m_X8_knotIs [.ref 88, .int a1, .int a2, .int a3] h Q :=
  Cal.of [.ref 88, .int a1, .int a2, .int a3, .null] (by decide +kernel) (Nat.le_of_ble_eq_true rfl) rfl (sg_X8_knotIs_0 hd  H)

theorem sp_X2_knotFact (hd : 5 ≤ d) {b k : Nat} {what : Int32} (hb : kSea b) (hk : k < 15) (ht0 : kTxtOk h (b + 11)) (ht1 : kTxtOk h (b + 14)) (kk : ∀ h1, kS1 b h h1 → Q (kKf (kVw h b) k what) h1) : Cal G d m_X2_knotFact [.ref b, .int (nI k), .int what] h Q := by
  have vi : vp_in (nI k) 15 := vp_in_nI hk (by decide)
  have k0 := kk h kS1.rf
  have e8 : kVw h b 8 k = h (b + 8) k := rfl
  have e13 : kVw h b 0 13 = h b 13 := rfl
  unfold kKf kFv at k0 kk
  rw [e8, e13] at k0
  simp only [e8, e13] at kk
  refine cg_X2_knotFact hd hb ⟨vi, ?_⟩
  rw [nI_clamp (by omega)]
  refine ⟨fun c => ⟨fun e => ⟨vi, ?_⟩, fun e0 => ⟨fun e => ⟨vi, ?_⟩, fun e1 => ⟨fun e => ⟨vi, ?_⟩, fun e2 => ⟨fun e => ⟨vi, ?_⟩, fun e3 => ⟨fun e => ⟨vi, ⟨vi, ht0⟩, fun h13 q13 => ?_⟩, fun e4 => ?_⟩⟩⟩⟩⟩, fun c => ⟨fun e => ⟨vi, ?_⟩, fun e0 => ⟨fun e => ⟨vi, ?_⟩, fun e1 => ⟨fun e => ⟨vi, ?_⟩, fun e2 => ⟨fun e => ⟨vi, ?_⟩, fun e3 => ⟨fun e => ?_, fun e4 => ⟨⟨vi, ht1⟩, fun h13 q13 => ?_⟩⟩⟩⟩⟩⟩⟩
  · rw [if_pos e] at k0
    exact k0
  · rw [if_neg e0, if_pos e] at k0
    exact k0
  · rw [if_neg e0, if_neg e1, if_pos e] at k0
    exact k0
  · rw [if_neg e0, if_neg e1, if_neg e2, if_pos e] at k0
    exact k0
  · have k1 := kk h13 q13
    rw [if_neg e0, if_neg e1, if_neg e2, if_neg e3, if_pos e, if_neg c] at k1
    exact k1
  · rw [if_neg e0, if_neg e1, if_neg e2, if_neg e3, if_neg e4, if_neg c] at k0
    exact k0
  · rw [if_pos e] at k0
    exact k0
  · rw [if_neg e0, if_pos e] at k0
    exact k0
  · rw [if_neg e0, if_neg e1, if_pos e] at k0
    exact k0
  · rw [if_neg e0, if_neg e1, if_neg e2, if_pos e] at k0
    exact k0
  · rw [if_neg e0, if_neg e1, if_neg e2, if_neg e3, if_pos e, if_pos c] at k0
    exact k0
  · have k1 := kk h13 q13
    rw [if_neg e0, if_neg e1, if_neg e2, if_neg e3, if_neg e4, if_pos c] at k1
    exact k1
theorem mo_knotIs (hd : 6 ≤ d) {v : kM} {n H f w p j : Nat} {what : Int32} (hS : kSRn v (h 89) n H f w) (hp : p < n) (hj : j < 3) (hv : 0 ≤ what ∧ what ≤ 5) (kk : ∀ h1, kS2 h h1 → Q (kKf v (3 * p + j) what) h1) : Cal G d m_X8_knotIs [.ref 88, .int (nI p), .int (nI j), .int what] h Q := by
  have hn := hS.1.1
  have ec : (0 ≤ nI p ∧ nI p ≤ h 89 0 - 1) ∧ (0 ≤ nI j ∧ nI j ≤ 2) := by
    rw [hS.1.2.2]
    exact ⟨(iM (by omega)).mpr (iLt hp (by omega)), i2.mpr (iLt hj (by decide))⟩
  obtain ⟨c, -, hc, rfl⟩ := iB 0 5 (by decide) hv.1 hv.2 (by decide)
  obtain ⟨t, m, wy, ht, hm, hwy, x1, x2, x3, x4, x5, x6, x7⟩ := hS.2.2.2.2.2.2.2.2.1 (3 * p + j) (by omega)
  have k0 := kk h kS2.rf
  refine cg_X8_knotIs hd ⟨fun q => absurd ec (kb_0.mp q), fun _ => ⟨fun _ => ?_, fun q => absurd hv (kb_0.mp q)⟩⟩
  rw [ix3]
  refine ⟨fun e => ⟨fun n4 => ?_, fun e4 => ?_⟩, fun e => ?_⟩
  · have hc5 : c = 5 := by
      have z1 : 4 ≤ c := (nI_leI (a := 4) (b := c) (by decide) (by omega)).mp e
      have z2 : ¬ c = 4 := fun z => n4 (by rw [z]; rfl)
      omega
    subst hc5
    have ek : kKf v (3 * p + j) (nI 5) = (if v 8 (3 * p + j) = -1 then kPr v (nI (3 * p + j)) else 0) := by
      unfold kKf
      rw [if_neg (by decide), if_neg (by decide), if_neg (by decide), if_neg (by decide), if_neg (by decide)]
    rw [ek] at kk
    exact sp_X8_price (d := d - 1) (by omega) hS (by omega) kk
  · have ek : kKf v (3 * p + j) (nI c) = kFv v (3 * p + j) := by
      rw [e4]
      unfold kKf
      rw [if_neg (by decide), if_neg (by decide), if_neg (by decide), if_neg (by decide), if_pos rfl]
    rw [ek] at kk
    exact sp_X8_force (d := d - 1) (by omega) hS (by omega) kk
  · have hc4 : c < 4 := by
      by_cases z : c < 4
      · exact z
      · exact absurd (nI_le (a := 4) (b := c) (by omega) (by omega)) e
    refine ⟨okI_n (by omega) hc4, ?_⟩
    rw [mIt_n (by omega) hc4]
    rcases (show c = 0 ∨ c = 1 ∨ c = 2 ∨ c = 3 by omega) with rfl | rfl | rfl | rfl
    · have ek : kKf v (3 * p + j) (nI 0) = v 5 (3 * p + j) := by
        unfold kKf
        rw [if_pos (by decide)]
      rw [ek, x1, ← x2] at k0
      exact k0
    · have ek : kKf v (3 * p + j) (nI 1) = v 6 (3 * p + j) := by
        unfold kKf
        rw [if_neg (by decide), if_pos (by decide)]
      rw [ek, x3, ← x4, show 88 + 4 * (3 * p + j) = 87 + 4 * (3 * p + j) + 1 by omega] at k0
      exact k0
    · have ek : kKf v (3 * p + j) (nI 2) = v 7 (3 * p + j) := by
        unfold kKf
        rw [if_neg (by decide), if_neg (by decide), if_pos (by decide)]
      rw [ek, x5, ← x6, show 89 + 4 * (3 * p + j) = 87 + 4 * (3 * p + j) + 2 by omega] at k0
      exact k0
    · have ek : kKf v (3 * p + j) (nI 3) = v 8 (3 * p + j) := by
        unfold kKf
        rw [if_neg (by decide), if_neg (by decide), if_neg (by decide), if_pos (by decide)]
      rw [ek, x7, show 90 + 4 * (3 * p + j) = 87 + 4 * (3 * p + j) + 3 by omega] at k0
      exact k0
/-- a knot's name, in both -/
theorem kKn {n : Nat} {a1 a2 : Int32} (hn : n ≤ 5) (hc : (0 ≤ a1 ∧ a1 < nI n) ∧ (0 ≤ a2 ∧ a2 < 3)) : ∃ p j, p < n ∧ j < 3 ∧ a1 = nI p ∧ a2 = nI j := by
  obtain ⟨p, hp, e1⟩ := iI (n := n) (by omega) hc.1.1 hc.1.2
  obtain ⟨j, hj, e2⟩ := iI (n := 3) (by decide) hc.2.1 hc.2.2
  exact ⟨p, j, hp, hj, e1, e2⟩
theorem kKm {n : Nat} {a1 a2 : Int32} (hn : n ≤ 5) : ((0 ≤ a1 ∧ a1 ≤ nI n - 1) ∧ (0 ≤ a2 ∧ a2 ≤ 2)) ↔ ((0 ≤ a1 ∧ a1 < nI n) ∧ (0 ≤ a2 ∧ a2 < 3)) := by
  rw [iM (by omega), i2]
theorem st_knotIs (hd : 6 ≤ d) (hR : kRel h) (a1 a2 a3 : Int32) : kStp G d m_X7_knotIs m_X8_knotIs [.int a1, .int a2, .int a3] h := by
  obtain ⟨n, H, f, w, hS, hH⟩ := hR.n
  obtain ⟨hn, n1, n2⟩ := hS.1
  have n1 : h 1 12 = nI n := n1
  by_cases hc : (0 ≤ a1 ∧ a1 < nI n) ∧ (0 ≤ a2 ∧ a2 < 3)
  · by_cases hv : 0 ≤ a3 ∧ a3 < 6
    · obtain ⟨p, j, hp, hj, rfl, rfl⟩ := kKn hn hc
      refine cg_X7_knotIs (by omega) ⟨fun q => absurd (by rw [n1]; exact hc) (kb_0.mp q), fun _ => ⟨fun _ => ?_, fun q => absurd hv (kb_0.mp q)⟩⟩
      rw [ix3]
      refine sp_X2_knotFact (d := d - 1) (by omega) kSea_is1 (by omega) hS.ok.2.1 hS.ok.2.2 (fun h1 q1 => ?_)
      have o89 : h1 89 = h 89 := q1 89 (by decide) (by decide)
      refine mo_knotIs hd (hS.congr2 o89) hp hj (i5.mpr hv) (fun h2 q2 => ⟨rfl, hR.scr (fun a ha => ?_)⟩)
      rw [q2 a (by unfold kScr at ha; omega) (by unfold kScr at ha; omega), q1 a (by unfold kScr at ha; omega) (by unfold kScr at ha; omega)]
    · refine cg_X7_knotIs (by omega) ⟨fun q => absurd (by rw [n1]; exact hc) (kb_0.mp q), fun _ => ⟨fun q => absurd (kb_n0.mp q) hv, fun _ => ⟨kin7 (n := 1) (by decide), fun h1 e1 => ?_⟩⟩⟩
      have x0 : h1 89 0 = nI n := by rw [e1, kErr_ne (by decide)]; exact n2
      exact cg_X8_knotIs hd ⟨fun q => absurd (by rw [x0]; exact (kKm hn).mpr hc) (kb_0.mp q), fun _ => ⟨fun q => absurd (i5.mp (kb_n0.mp q)) hv, fun _ => ⟨kin7 (n := 1) (by decide), kErrs hR h1 e1⟩⟩⟩
  · refine cg_X7_knotIs (by omega) ⟨fun _ => ⟨kin7 (n := 1) (by decide), fun h1 e1 => ?_⟩, fun q => absurd (by have := kb_n0.mp q; rw [n1] at this; exact this) hc⟩
    have x0 : h1 89 0 = nI n := by rw [e1, kErr_ne (by decide)]; exact n2
    exact cg_X8_knotIs hd ⟨fun _ => ⟨kin7 (n := 1) (by decide), kErrs hR h1 e1⟩, fun q => absurd ((kKm hn).mp (by have := kb_n0.mp q; rw [x0] at this; exact this)) hc⟩
end Facts

