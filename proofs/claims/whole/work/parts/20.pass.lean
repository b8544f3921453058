/-! hours that pass: the class's, and many of them -/
section Pass
variable {G : kG} {d : Nat} {Q : Int32 → kM → Prop} {h : kM}
/-- views that differ in the stacks alone -/
def kVEq (v v' : kM) : Prop := ∀ a, a ≤ 15 → a ≠ 13 → v' a = v a
theorem kVEq.rf {v : kM} : kVEq v v := fun _ _ _ => rfl
theorem kVEq.tr {v v1 v2 : kM} (e1 : kVEq v v1) (e2 : kVEq v1 v2) : kVEq v v2 := fun a x y => (e2 a x y).trans (e1 a x y)
theorem kVEq.sy {v v1 : kM} (e1 : kVEq v v1) : kVEq v1 v := fun a x y => (e1 a x y).symm
theorem kS1.eq {b : Nat} {h h' : kM} (e : kS1 b h h') : kVEq (kVw h b) (kVw h' b) := fun a h1 h2 => e (b + a) (by omega) (by omega)
theorem kWn_eq {v v' : kM} (e : kVEq v v') (w t : Int32) : kWn v' w t = kWn v w t := by
  have c : ∀ a, a ≤ 15 → a ≠ 13 → v' a = v a := e
  have ft : ∀ k, kWt v' w t k = kWt v w t k := fun k => by
    unfold kWt kFo
    rw [c 8 (by decide) (by decide), c 7 (by decide) (by decide), c 11 (by decide) (by decide), c 12 (by decide) (by decide), c 5 (by decide) (by decide), c 6 (by decide) (by decide)]
  unfold kWn kNs
  rw [c 0 (by decide) (by decide), c 2 (by decide) (by decide)]
  exact kSum_congr _ (fun i _ => ft i)
theorem kSeaOk.eq {v v' : kM} (e : kVEq v v') (h : kSeaOk v) : kSeaOk v' := by
  unfold kSeaOk kTxtOk at *
  rw [e 0 (by decide) (by decide), e 11 (by decide) (by decide), e (11 + 1) (by decide) (by decide), e 14 (by decide) (by decide), e (14 + 1) (by decide) (by decide)]
  exact h
theorem kHr_eq {v v' : kM} (e : kVEq v v') : kVEq (kHr v) (kHr v') := by
  intro a h1 h2
  have ens : kNs v' = kNs v := by unfold kNs; rw [e 0 (by decide) (by decide)]
  unfold kHr kGo1 kPort
  rw [ens, e 0 (by decide) (by decide), e 1 (by decide) (by decide), e 3 (by decide) (by decide), e 4 (by decide) (by decide), kWn_eq e, kWn_eq e]
  by_cases a0 : a = 0
  · rw [if_pos a0, if_pos a0]
  · rw [if_neg a0, if_neg a0]
    by_cases a3 : a = 3
    · rw [if_pos a3, if_pos a3]
    · rw [if_neg a3, if_neg a3]
      exact e a h1 h2
theorem kSRn.eq {v v' : kM} {g : Nat → Int32} {n H f w : Nat} (e : kVEq v v') (hS : kSRn v g n H f w) : kSRn v' g n H f w := by
  unfold kSRn kShipR kKnotR at *
  simp only [e 0 (by decide) (by decide), e 1 (by decide) (by decide), e 2 (by decide) (by decide), e 3 (by decide) (by decide), e 4 (by decide) (by decide), e 5 (by decide) (by decide), e 6 (by decide) (by decide), e 7 (by decide) (by decide), e 8 (by decide) (by decide), e 9 (by decide) (by decide), e 10 (by decide) (by decide), e 11 (by decide) (by decide), e 12 (by decide) (by decide), e 14 (by decide) (by decide), e 15 (by decide) (by decide)]
  exact hS
/-- n hours -/
def kHrN (v : kM) : Nat → kM
  | 0 => v
  | n + 1 => kHr (kHrN v n)
def at_X2_passHour_22 (G : kG) (d : Nat) (Q : Int32 → kM → Prop) (b : Nat) (v1 : Int32) (v2 : Int32) (v3 : Int32) (h : kM) : Prop := Wp G d m_X2_passHour (kEo G d m_X2_passHour Q) 22 [.ref b, .int v1, .int v2, .int v3] [] h
theorem sg_X2_passHour_0 {G : kG} {d : Nat} {Q : Int32 → kM → Prop} {b : Nat}  {h : kM} (hd : 6 ≤ d) (k_b : kSea b) (H :
    (vp_in (0 : Int32) 2 ∧ kSeaOk (kVw h b)) ∧
    ∀ (h2 : kM), kS1 b h h2 →
    (vp_in (1 : Int32) 2 ∧ kSeaOk (kVw h2 b)) ∧
    ∀ (h4 : kM), kS1 b h2 h4 →
    at_X2_passHour_22 G d Q b (kWn (kVw h b) (0 : Int32) (h b 13)) (kWn (kVw h2 b) (1 : Int32) (h2 b 13)) (0 : Int32) h4) : Wp G d m_X2_passHour (kEo G d m_X2_passHour Q) 0 [.ref b, .null, .null, .null] [] h := by
  refine wp_aload_n 1 dX2_passHour_0 rfl rfl ?_
  refine wp_iconst (0 : Int32) 2 dX2_passHour_1 kiconst_0 rfl ?_
  refine wp_aload_n 3 dX2_passHour_2 rfl rfl ?_
  refine wp_getI 6 dX2_passHour_3 rfl fl_X2_69 (kSea_0 k_b) rfl ?_
  have c1 := H.1; replace H := H.2
  refine wp_cV (d - 1) 2 [.int (0 : Int32), .int (h b 13)] [] 9 dX2_passHour_6 rfl (lk_X2_133 rfl) (by omega) (kSea_0 k_b) rfl rfl rfl (Nat.le_of_ble_eq_true rfl) (sp_X2_windAt (by omega) k_b c1 (fun h2 eh2 => ?_))
  replace H := H h2 eh2
  refine wp_istore_n 10 dX2_passHour_9 rfl (Nat.le_of_ble_eq_true rfl) rfl ?_
  refine wp_aload_n 11 dX2_passHour_10 rfl rfl ?_
  refine wp_iconst (1 : Int32) 12 dX2_passHour_11 kiconst_1 rfl ?_
  refine wp_aload_n 13 dX2_passHour_12 rfl rfl ?_
  refine wp_getI 16 dX2_passHour_13 rfl fl_X2_69 (kSea_0 k_b) rfl ?_
  have c3 := H.1; replace H := H.2
  refine wp_cV (d - 1) 2 [.int (1 : Int32), .int (h2 b 13)] [] 19 dX2_passHour_16 rfl (lk_X2_133 rfl) (by omega) (kSea_0 k_b) rfl rfl rfl (Nat.le_of_ble_eq_true rfl) (sp_X2_windAt (by omega) k_b c3 (fun h4 eh4 => ?_))
  replace H := H h4 eh4
  refine wp_istore_n 20 dX2_passHour_19 rfl (Nat.le_of_ble_eq_true rfl) rfl ?_
  refine wp_iconst (0 : Int32) 21 dX2_passHour_20 kiconst_0 rfl ?_
  refine wp_istore_n 22 dX2_passHour_21 rfl (Nat.le_of_ble_eq_true rfl) rfl ?_
  exact H

theorem cg_X2_passHour {G : kG} {d : Nat} {Q : Int32 → kM → Prop} {b : Nat}  {h : kM} (hd : 6 ≤ d) (k_b : kSea b) (H :
    (vp_in (0 : Int32) 2 ∧ kSeaOk (kVw h b)) ∧
    ∀ (h2 : kM), kS1 b h h2 →
    (vp_in (1 : Int32) 2 ∧ kSeaOk (kVw h2 b)) ∧
    ∀ (h4 : kM), kS1 b h2 h4 →
    at_X2_passHour_22 G d Q b (kWn (kVw h b) (0 : Int32) (h b 13)) (kWn (kVw h2 b) (1 : Int32) (h2 b 13)) (0 : Int32) h4) : Cal G d m_X2_passHour [.ref b] h Q :=
  Cal.of [.ref b, .null, .null, .null] (by decide +kernel) (Nat.le_of_ble_eq_true rfl) rfl (sg_X2_passHour_0 hd k_b H)

theorem sg_X2_passHour_22 {G : kG} {d : Nat} {Q : Int32 → kM → Prop} {b : Nat} {v1 : Int32} {v2 : Int32} {v3 : Int32} {h : kM} (hd : 6 ≤ d) (k_b : kSea b) (H :
    (((h b 12) ≤ v3 →
      ∀ h2 : kM, h2 = kU h b 13 ((h b 13) + (1 : Int32)) →
      Q 0 h2
    ) ∧ (¬ ((h b 12) ≤ v3) →
      (vp_in v3 5) ∧
      Cal G (d - 1) m_X2_sailed [.ref b, .int v3, .int (h (b + 3) (v3).toNatClampNeg), .int v1, .int v2] h (fun x4 h5 =>
        (vp_in v3 5) ∧
        ∀ h7 : kM, h7 = kU h5 (b + 3) (v3).toNatClampNeg x4 →
        at_X2_passHour_22 G d Q b v1 v2 (v3 + (1 : Int32)) h7
      )
    ))) : at_X2_passHour_22 G d Q b v1 v2 v3 h := by
  show Wp G d m_X2_passHour (kEo G d m_X2_passHour Q) 22 [.ref b, .int v1, .int v2, .int v3] [] h
  refine wp_iload_n 23 dX2_passHour_22 rfl rfl ?_
  refine wp_aload_n 24 dX2_passHour_23 rfl rfl ?_
  refine wp_getI 27 dX2_passHour_24 rfl fl_X2_66 (kSea_0 k_b) rfl ?_
  refine wp_icmp_ge 55 30 dX2_passHour_27 rfl rfl ⟨fun c1 => ?_, fun c1 => ?_⟩
  · replace H := H.1 c1
    refine wp_aload_n 56 dX2_passHour_55 rfl rfl ?_
    refine wp_dup 57 dX2_passHour_56 rfl rfl ?_
    refine wp_getI 60 dX2_passHour_57 rfl fl_X2_69 (kSea_0 k_b) rfl ?_
    refine wp_iconst (1 : Int32) 61 dX2_passHour_60 kiconst_1 rfl ?_
    refine wp_iadd 62 dX2_passHour_61 rfl ?_
    refine wp_putI 65 dX2_passHour_62 rfl fl_X2_69 fin_2_13 (kSea_0 k_b) rfl ?_
    refine wp_nm (fun h2 eh2 => ?_)
    replace H := H h2 eh2
    exact wp_retv dX2_passHour_65 rfl H
  · replace H := H.2 c1
    refine wp_aload_n 31 dX2_passHour_30 rfl rfl ?_
    refine wp_getR 3 (b + 3) 34 dX2_passHour_31 rfl fl_X2_18 (kSea_0 k_b) rfl rfl rfl rfl ?_
    refine wp_iload_n 35 dX2_passHour_34 rfl rfl ?_
    refine wp_aload_n 36 dX2_passHour_35 rfl rfl ?_
    refine wp_iload_n 37 dX2_passHour_36 rfl rfl ?_
    refine wp_aload_n 38 dX2_passHour_37 rfl rfl ?_
    refine wp_getR 3 (b + 3) 41 dX2_passHour_38 rfl fl_X2_18 (kSea_0 k_b) rfl rfl rfl rfl ?_
    refine wp_iload_n 42 dX2_passHour_41 rfl rfl ?_
    have c3 := H.1; replace H := H.2
    refine wp_iald 43 dX2_passHour_42 rfl (kSea_3 k_b) c3 ?_
    refine wp_iload_n 44 dX2_passHour_43 rfl rfl ?_
    refine wp_iload_n 45 dX2_passHour_44 rfl rfl ?_
    refine wp_cV (d - 1) 4 [.int v3, .int (h (b + 3) (v3).toNatClampNeg), .int v1, .int v2] [.int v3, .ref (b + 3)] 48 dX2_passHour_45 rfl (lk_X2_136 rfl) (by omega) (kSea_0 k_b) rfl rfl rfl (Nat.le_of_ble_eq_true rfl) (H.mono (fun x4 h5 H => ?_))
    have c6 := H.1; replace H := H.2
    refine wp_iast 49 dX2_passHour_48 rfl (kSea_3 k_b) c6 ?_
    refine wp_nm (fun h7 eh7 => ?_)
    replace H := H h7 eh7
    refine wp_iinc (1 : Int32) 52 dX2_passHour_49 rfl rfl kiconst_1 (Nat.le_of_ble_eq_true rfl) rfl ?_
    refine wp_goto 22 dX2_passHour_52 rfl ?_
    exact H

/-- behind the class's hour -/
def kPs (b : Nat) (h h' : kM) : Prop := (∀ a, a ≠ b → a ≠ b + 3 → a ≠ b + 13 → a ≠ b + 16 → h' a = h a) ∧ kVEq (kHr (kVw h b)) (kVw h' b)
theorem lp_pass (hd : 6 ≤ d) {b : Nat} (hb : kSea b) {v : kM} {g : Nat → Int32} {n H f w : Nat} {e s : Int32} (hS : kSRn v g n H f w) (kk : ∀ h1, (∀ a, a ≠ 3 → a ≤ 15 → a ≠ 13 → kVw h1 b a = v a) → (kVw h1 b 3 = fun p => if p < n then kGo1 v e s p else v 3 p) → (∀ a, a ≠ b + 3 → h1 a = h a) → ∀ h2, h2 = kU h1 b 13 (h1 b 13 + 1) → Q 0 h2) : ∀ (m i : Nat) (h1 : kM), i + m = n → (∀ a, a ≠ 3 → a ≤ 15 → a ≠ 13 → kVw h1 b a = v a) → (kVw h1 b 3 = fun p => if p < i then kGo1 v e s p else v 3 p) → (∀ a, a ≠ b + 3 → h1 a = h a) → at_X2_passHour_22 G d Q b e s (nI i) h1 := by
  have hn := hS.1.1
  intro m
  induction m with
  | zero =>
    intro i h1 hi hv h3 ho
    have hi2 : i = n := by omega
    subst hi2
    have e0 : h1 b 12 = nI i := by
      have := hv 0 (by decide) (by decide) (by decide)
      show kVw h1 b 0 12 = _
      rw [this]
      exact hS.1.2.1
    exact sg_X2_passHour_22 hd hb ⟨fun _ => kk h1 hv h3 ho, fun q => absurd (by rw [e0]; exact nI_le (Nat.le_refl _) (by omega)) q⟩
  | succ m ih =>
    intro i h1 hi hv h3 ho
    have e0 : h1 b 12 = nI n := by
      have := hv 0 (by decide) (by decide) (by decide)
      show kVw h1 b 0 12 = _
      rw [this]
      exact hS.1.2.1
    obtain ⟨x, x1, x2, x3, x4, x5, x6, x7, x8, x9⟩ := (hS.2.2.2.2.2.2.2.1 i (by omega)).xy
    have hvi : vp_in (nI i) 5 := vp_in_nI (by omega) (by decide)
    have e3 : h1 (b + 3) i = kPl x := by
      show kVw h1 b 3 i = _
      rw [h3]
      show (if i < i then _ else v 3 i) = _
      rw [if_neg (Nat.lt_irrefl i)]
      exact x4
    have e1 : h1 (b + 1) = v 1 := hv 1 (by decide) (by decide) (by decide)
    refine sg_X2_passHour_22 hd hb ⟨fun q => absurd q (by rw [e0]; exact ltn (nI_lt (by omega) (by omega))), fun _ => ⟨hvi, ?_⟩⟩
    rw [nI_clamp (by omega), e3]
    have hport : h1 (b + 4) i = nI (kPort v i) := by
      have := hv 4 (by decide) (by decide) (by decide)
      show kVw h1 b 4 i = _
      rw [this]
      exact x8
    refine sp_X2_sailed (d := d - 1) (by omega) hb (p := i) (q := kPort v i) (by omega) x3 hport x1 x2 ⟨hvi, fun h7 e7 => ?_⟩
    rw [e1] at e7
    rw [nI_1]
    refine ih (i + 1) h7 (by omega) (fun a a1 a2 a3 => ?_) ?_ (fun a a1 => by rw [e7, kU_ne a1]; exact ho a a1)
    · rw [← hv a a1 a2 a3]
      show h7 (b + a) = h1 (b + a)
      rw [e7, kU_ne (by omega)]
    · show h7 (b + 3) = _
      rw [e7, kU_eq]
      have h3' : h1 (b + 3) = _ := h3
      rw [h3']
      funext p
      by_cases ep : p = i
      · subst ep
        rw [pk_us, if_pos (Nat.lt_succ_self p)]
        unfold kGo1
        rw [x5]
      · rw [pk_un ep]
        by_cases e2 : p < i
        · rw [if_pos e2, if_pos (by omega)]
        · rw [if_neg e2, if_neg (by omega)]
theorem sp_X2_passHour (hd : 6 ≤ d) {b : Nat} (hb : kSea b) {g : Nat → Int32} {n H f w : Nat} (hS : kSRn (kVw h b) g n H f w) (kk : ∀ h1, kPs b h h1 → Q 0 h1) : Cal G d m_X2_passHour [.ref b] h Q := by
  refine cg_X2_passHour hd hb ⟨⟨by unfold vp_in; decide, hS.ok⟩, fun h2 q2 => ⟨⟨by unfold vp_in; decide, hS.ok.eq q2.eq⟩, fun h4 q4 => ?_⟩⟩
  have q5 := q2.tr q4
  rw [kWn_eq q2.eq, q2 b (by omega) (by omega)]
  refine lp_pass (h := h4) hd hb hS ?_ n 0 h4 (by omega) (fun a a1 a2 a3 => q5.eq a a2 a3) ?_ (fun _ _ => rfl)
  · intro h6 hv h3 ho h7 e7
    refine kk h7 ⟨fun a a1 a2 a3 a4 => by rw [e7, kU_ne a1, ho a a2, q5 a a3 a4], fun a a1 a2 => ?_⟩
    show h7 (b + a) = (if a = 0 then upd (kVw h b 0) 13 (kVw h b 0 13 + 1) else if a = 3 then (fun p => if p < kNs (kVw h b) then _ else kVw h b 3 p) else kVw h b a)
    by_cases a0 : a = 0
    · subst a0
      rw [if_pos rfl]
      show h7 b = _
      rw [e7, kU_eq]
      have e0 : h6 b = kVw h b 0 := hv 0 (by decide) (by decide) (by decide)
      rw [e0]
    · rw [if_neg a0, e7, kU_ne (by omega)]
      by_cases a3 : a = 3
      · subst a3
        rw [if_pos rfl, hS.ns]
        exact h3
      · rw [if_neg a3]
        exact hv a a3 a1 a2
  · show kVw h4 b 3 = _
    rw [q5.eq 3 (by decide) (by decide)]
    funext p
    rw [if_neg (Nat.not_lt_zero p)]
theorem lp_go (hd : 8 ≤ d) {v : kM} {n H f w : Nat} {N : Nat} (hN : N ≤ 100) (hH : H + N ≤ 100000) (kk : ∀ h1, kS3 h h1 → kSRn (kHrN v N) (h1 89) n (H + N) f w → Q 0 h1) : ∀ (m i : Nat) (h1 : kM), i + m = N → kS3 h h1 → kSRn (kHrN v i) (h1 89) n (H + i) f w → at_X8_go_2 G d Q (nI N) (nI i) h1 := by
  intro m
  induction m with
  | zero =>
    intro i h1 hi q hS
    have hi2 : i = N := by omega
    subst hi2
    exact sg_X8_go_2 hd ⟨fun _ => kk h1 q hS, fun z => absurd (nI_le (Nat.le_refl _) (by omega)) z⟩
  | succ m ih =>
    intro i h1 hi q hS
    refine sg_X8_go_2 hd ⟨fun z => absurd z (ltn (nI_lt (by omega) (by omega))), fun _ => ?_⟩
    refine sp_X8_hour (d := d - 1) (by omega) hS (by omega) (fun h2 q2 hS2 => ?_)
    rw [nI_1]
    exact ih (i + 1) h2 (by omega) (q.tr q2) hS2
theorem sp_X8_go (hd : 8 ≤ d) {v : kM} {n H f w : Nat} {N : Nat} (hN : N ≤ 100) (hH : H + N ≤ 100000) (hS : kSRn v (h 89) n H f w) (kk : ∀ h1, kS3 h h1 → kSRn (kHrN v N) (h1 89) n (H + N) f w → Q 0 h1) : Cal G d m_X8_go [.ref 88, .int (nI N)] h Q :=
  cg_X8_go hd (lp_go hd hN hH kk N 0 h (by omega) kS3.rf hS)
end Pass

