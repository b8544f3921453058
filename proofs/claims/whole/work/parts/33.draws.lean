/-! draws -/
section Draws
variable {G : kG} {d : Nat} {Q : Int32 → kM → Prop} {h : kM}
theorem kDraw_n (z : Int32) : ∃ j, j < 2 ^ 24 ∧ kDraw z = nI j := by
  have e := pk_ushr (z * 1103515245 + 12345) 8 8 (by decide)
  refine ⟨(z * 1103515245 + 12345).toBitVec.toNat / 2 ^ 8, by omega, ?_⟩
  apply Int32.toBitVec_inj.mp
  apply BitVec.eq_of_toNat_eq
  rw [pk_tn (by omega)]
  exact e
def kDn (v : kM) : Nat := (kDraw (v 0 16)).toNatClampNeg
theorem kDn_n {v : kM} : kDn v < 2 ^ 24 ∧ kDraw (v 0 16) = nI (kDn v) := by
  obtain ⟨j, hj, e⟩ := kDraw_n (v 0 16)
  unfold kDn
  rw [e, nI_clamp (by omega)]
  exact ⟨hj, rfl⟩
/-- a view behind a draw -/
def kZ (v : kM) : kM := fun a => if a = 0 then upd (v 0) 16 (v 0 16 * 1103515245 + 12345) else v a
theorem kZ_0 {v : kM} : kZ v 0 = upd (v 0) 16 (v 0 16 * 1103515245 + 12345) := if_pos rfl
theorem kZ_c {v : kM} {a : Nat} (ha : a ≠ 0) : kZ v a = v a := if_neg ha
theorem kZ_s {v : kM} {s : Nat} (hs : s ≠ 16) : kZ v 0 s = v 0 s := by rw [kZ_0, pk_un hs]
theorem kZ_eq {v v' : kM} (e : kVEq v v') : kVEq (kZ v) (kZ v') := by
  intro a h1 h2
  by_cases e0 : a = 0
  · subst e0
    rw [kZ_0, kZ_0, e 0 (by decide) (by decide)]
  · rw [kZ_c e0, kZ_c e0]
    exact e a h1 h2
theorem kZ_of {b : Nat} {h2 : kM} (e : h2 = kU h b 16 (h b 16 * 1103515245 + 12345)) : kVEq (kZ (kVw h b)) (kVw h2 b) := by
  intro a h1 h2
  by_cases e0 : a = 0
  · subst e0
    rw [kZ_0, e]
    exact kU_eq
  · rw [kZ_c e0, e]
    exact kU_ne (by omega)
theorem kSRn.z {v : kM} {g g' : Nat → Int32} {n H f w : Nat} (hS : kSRn v g n H f w) (eg : g' = upd g 6 (g 6 * 1103515245 + 12345)) : kSRn (kZ v) g' n H f w := by
  refine hS.re_z (fun a _ h0 _ => kZ_c h0) (fun s _ hs => kZ_s hs) (fun j hj => by rw [eg, pk_un (by omega)]) ?_
  rw [kZ_0, pk_us, eg, pk_us, hS.2.2.2.2.1]
theorem kLo_eq {v v' : kM} (e : kVEq v v') (k : Nat) : kVEq (kLo v k) (kLo v' k) := by
  intro a h1 h2
  by_cases e8 : a = 8
  · subst e8
    rw [kLo_8, kLo_8, e 8 (by decide) (by decide), e 0 (by decide) (by decide)]
  · rw [kLo_c e8, kLo_c e8]
    exact e a h1 h2
abbrev kMy (v : kM) (p j : Nat) : Prop := v 8 (3 * p + j) = -1 ∧ kDay (v 0 13) ∧ ¬ nI (kXy (v 3 p)).2 = 1
/-- the draws ahead of an hour: the view behind them, and whether a knot was loosed -/
def kDl (v : kM) : kM × Int32 :=
  if kDay (v 0 13) then (if kDn (kZ v) % 4 = 3 then (kZ (kZ v), 0) else if kMy (kZ (kZ v)) (kDn v % kNs v) (kDn (kZ v) % 4) then (kLo (kZ (kZ v)) (3 * (kDn v % kNs v) + kDn (kZ v) % 4), 1) else (kZ (kZ v), 0)) else (kZ v, 0)
theorem kDl_n {v : kM} (hd : ¬ kDay (v 0 13)) : kDl v = (kZ v, 0) := if_neg hd
theorem kDl_3 {v : kM} (hd : kDay (v 0 13)) (h3 : kDn (kZ v) % 4 = 3) : kDl v = (kZ (kZ v), 0) := by
  unfold kDl
  rw [if_pos hd, if_pos h3]
theorem kDl_y {v : kM} (hd : kDay (v 0 13)) (h3 : ¬ kDn (kZ v) % 4 = 3) (hm : kMy (kZ (kZ v)) (kDn v % kNs v) (kDn (kZ v) % 4)) : kDl v = (kLo (kZ (kZ v)) (3 * (kDn v % kNs v) + kDn (kZ v) % 4), 1) := by
  unfold kDl
  rw [if_pos hd, if_neg h3, if_pos hm]
theorem kDl_o {v : kM} (hd : kDay (v 0 13)) (h3 : ¬ kDn (kZ v) % 4 = 3) (hm : ¬ kMy (kZ (kZ v)) (kDn v % kNs v) (kDn (kZ v) % 4)) : kDl v = (kZ (kZ v), 0) := by
  unfold kDl
  rw [if_pos hd, if_neg h3, if_neg hm]
theorem kDl_eq {v v' : kM} (e : kVEq v v') : (kDl v').2 = (kDl v).2 ∧ kVEq (kDl v).1 (kDl v').1 := by
  have c0 : v' 0 = v 0 := e 0 (by decide) (by decide)
  have ez := kZ_eq e
  have ezz := kZ_eq ez
  have d1 : kDn v' = kDn v := by unfold kDn; rw [c0]
  have d2 : kDn (kZ v') = kDn (kZ v) := by unfold kDn; rw [ez 0 (by decide) (by decide)]
  have d3 : kNs v' = kNs v := by unfold kNs; rw [c0]
  by_cases hd : kDay (v 0 13)
  · have hd' : kDay (v' 0 13) := by rw [c0]; exact hd
    by_cases h3 : kDn (kZ v) % 4 = 3
    · rw [kDl_3 hd h3, kDl_3 hd' (by rw [d2]; exact h3)]
      exact ⟨rfl, ezz⟩
    · have h3' : ¬ kDn (kZ v') % 4 = 3 := by rw [d2]; exact h3
      by_cases hm : kMy (kZ (kZ v)) (kDn v % kNs v) (kDn (kZ v) % 4)
      · have hm' : kMy (kZ (kZ v')) (kDn v' % kNs v') (kDn (kZ v') % 4) := by
          rw [d1, d2, d3]
          unfold kMy
          rw [ezz 8 (by decide) (by decide), ezz 0 (by decide) (by decide), ezz 3 (by decide) (by decide)]
          exact hm
        rw [kDl_y hd h3 hm, kDl_y hd' h3' hm', d1, d2, d3]
        exact ⟨rfl, kLo_eq ezz _⟩
      · have hm' : ¬ kMy (kZ (kZ v')) (kDn v' % kNs v') (kDn (kZ v') % 4) := by
          rw [d1, d2, d3]
          unfold kMy
          rw [ezz 8 (by decide) (by decide), ezz 0 (by decide) (by decide), ezz 3 (by decide) (by decide)]
          exact hm
        rw [kDl_o hd h3 hm, kDl_o hd' h3' hm']
        exact ⟨rfl, ezz⟩
  · have hd' : ¬ kDay (v' 0 13) := by rw [c0]; exact hd
    rw [kDl_n hd, kDl_n hd']
    exact ⟨rfl, ez⟩
theorem kDl_01 (v : kM) : (kDl v).2 = 0 ∨ (kDl v).2 = 1 := by
  by_cases hd : kDay (v 0 13)
  · by_cases h3 : kDn (kZ v) % 4 = 3
    · rw [kDl_3 hd h3]; exact Or.inl rfl
    · by_cases hm : kMy (kZ (kZ v)) (kDn v % kNs v) (kDn (kZ v) % 4)
      · rw [kDl_y hd h3 hm]; exact Or.inr rfl
      · rw [kDl_o hd h3 hm]; exact Or.inl rfl
  · rw [kDl_n hd]; exact Or.inl rfl
theorem kSRn.dl {v : kM} {g : Nat → Int32} {n H f w : Nat} (hS : kSRn v g n H f w) (h0 : 0 < n) : ∃ g', kSRn (kDl v).1 g' n H f w := by
  have hz := hS.z rfl
  have hzz := hz.z rfl
  by_cases hd : kDay (v 0 13)
  · by_cases h3 : kDn (kZ v) % 4 = 3
    · rw [kDl_3 hd h3]; exact ⟨_, hzz⟩
    · by_cases hm : kMy (kZ (kZ v)) (kDn v % kNs v) (kDn (kZ v) % 4)
      · rw [kDl_y hd h3 hm, hS.ns]
        have hp : kDn v % n < n := Nat.mod_lt _ h0
        exact ⟨_, hzz.lo (k := 3 * (kDn v % n) + kDn (kZ v) % 4) (by omega) kVEq.rf rfl⟩
      · rw [kDl_o hd h3 hm]; exact ⟨_, hzz⟩
  · rw [kDl_n hd]; exact ⟨_, hz⟩
theorem sg_X2_looseByDraw_0 {G : kG} {d : Nat} {Q : Int32 → kM → Prop} {b : Nat}  {h : kM} (hd : 4 ≤ d) (k_b : kSea b) (H :
    ((¬ (h b 12) = 0 →
      ∀ h2 : kM, h2 = kU h b 16 (h b 16 * 1103515245 + 12345) →
      (¬ (h2 b 12) = 0) ∧
      ((¬ (kb (kDay (h2 b 13))) = 0 →
        ∀ h5 : kM, h5 = kU h2 b 16 (h2 b 16 * 1103515245 + 12345) →
        ((((kDraw (h2 b 16)) - (kDraw (h2 b 16)) / (4 : Int32) * (4 : Int32)) = (3 : Int32) →
          Q (0 : Int32) h5
        ) ∧ (¬ (((kDraw (h2 b 16)) - (kDraw (h2 b 16)) / (4 : Int32) * (4 : Int32)) = (3 : Int32)) →
          (vp_in ((kDraw (h b 16)) - (kDraw (h b 16)) / (h2 b 12) * (h2 b 12)) 5) ∧
          (vp_in (((3 : Int32) * ((kDraw (h b 16)) - (kDraw (h b 16)) / (h2 b 12) * (h2 b 12))) + ((kDraw (h2 b 16)) - (kDraw (h2 b 16)) / (4 : Int32) * (4 : Int32))) 15) ∧
          ((¬ (kb (h5 (b + 8) ((((3 : Int32) * ((kDraw (h b 16)) - (kDraw (h b 16)) / (h2 b 12) * (h2 b 12))) + ((kDraw (h2 b 16)) - (kDraw (h2 b 16)) / (4 : Int32) * (4 : Int32)))).toNatClampNeg = -1 ∧ kDay (h5 b 13) ∧ ¬ (h5 (b + 3) (((kDraw (h b 16)) - (kDraw (h b 16)) / (h2 b 12) * (h2 b 12))).toNatClampNeg) / 64 = 1)) = 0 →
            (vp_in (((3 : Int32) * ((kDraw (h b 16)) - (kDraw (h b 16)) / (h2 b 12) * (h2 b 12))) + ((kDraw (h2 b 16)) - (kDraw (h2 b 16)) / (4 : Int32) * (4 : Int32))) 15) ∧
            ∀ h11 : kM, h11 = kU h5 (b + 8) ((((3 : Int32) * ((kDraw (h b 16)) - (kDraw (h b 16)) / (h2 b 12) * (h2 b 12))) + ((kDraw (h2 b 16)) - (kDraw (h2 b 16)) / (4 : Int32) * (4 : Int32)))).toNatClampNeg (h5 b 13) →
            Q (1 : Int32) h11
          ) ∧ ((kb (h5 (b + 8) ((((3 : Int32) * ((kDraw (h b 16)) - (kDraw (h b 16)) / (h2 b 12) * (h2 b 12))) + ((kDraw (h2 b 16)) - (kDraw (h2 b 16)) / (4 : Int32) * (4 : Int32)))).toNatClampNeg = -1 ∧ kDay (h5 b 13) ∧ ¬ (h5 (b + 3) (((kDraw (h b 16)) - (kDraw (h b 16)) / (h2 b 12) * (h2 b 12))).toNatClampNeg) / 64 = 1)) = 0 →
            Q (0 : Int32) h5
          ))
        ))
      ) ∧ ((kb (kDay (h2 b 13))) = 0 →
        Q (0 : Int32) h2
      ))
    ) ∧ ((h b 12) = 0 →
      Q (0 : Int32) h
    ))) : Wp G d m_X2_looseByDraw (kEo G d m_X2_looseByDraw Q) 0 [.ref b, .null, .null, .null] [] h := by
  refine wp_aload_n 1 dX2_looseByDraw_0 rfl rfl ?_
  refine wp_getI 4 dX2_looseByDraw_1 rfl fl_X2_66 (kSea_0 k_b) rfl ?_
  refine wp_if_ne 9 7 dX2_looseByDraw_4 rfl rfl ⟨fun c1 => ?_, fun c1 => ?_⟩
  · replace H := H.1 c1
    refine wp_aload_n 10 dX2_looseByDraw_9 rfl rfl ?_
    refine wp_cV (d - 1) 0 [] [] 13 dX2_looseByDraw_10 rfl (lk_X2_150 rfl) (by omega) (kSea_0 k_b) rfl rfl rfl (Nat.le_of_ble_eq_true rfl) (sp_X2_drawn (by omega) k_b (fun h2 eh2 => ?_))
    replace H := H h2 eh2
    refine wp_aload_n 14 dX2_looseByDraw_13 rfl rfl ?_
    refine wp_getI 17 dX2_looseByDraw_14 rfl fl_X2_66 (kSea_0 k_b) rfl ?_
    have c3 := H.1; replace H := H.2
    refine wp_irem 18 dX2_looseByDraw_17 c3 rfl ?_
    refine wp_istore_n 19 dX2_looseByDraw_18 rfl (Nat.le_of_ble_eq_true rfl) rfl ?_
    refine wp_aload_n 20 dX2_looseByDraw_19 rfl rfl ?_
    refine wp_getI 23 dX2_looseByDraw_20 rfl fl_X2_69 (kSea_0 k_b) rfl ?_
    refine wp_cN (d - 1) 1 [.int (h2 b 13)] [] 26 dX2_looseByDraw_23 rfl (lk_X2_105 rfl) (by omega) rfl rfl (Nat.le_of_ble_eq_true rfl) (sp_X7_isDay (by omega)  ?_)
    refine wp_if_ne 31 29 dX2_looseByDraw_26 rfl rfl ⟨fun c4 => ?_, fun c4 => ?_⟩
    · replace H := H.1 c4
      refine wp_aload_n 32 dX2_looseByDraw_31 rfl rfl ?_
      refine wp_cV (d - 1) 0 [] [] 35 dX2_looseByDraw_32 rfl (lk_X2_150 rfl) (by omega) (kSea_0 k_b) rfl rfl rfl (Nat.le_of_ble_eq_true rfl) (sp_X2_drawn (by omega) k_b (fun h5 eh5 => ?_))
      replace H := H h5 eh5
      refine wp_iconst (4 : Int32) 36 dX2_looseByDraw_35 kiconst_4 rfl ?_
      refine wp_irem 37 dX2_looseByDraw_36 (by decide) rfl ?_
      refine wp_istore_n 38 dX2_looseByDraw_37 rfl (Nat.le_of_ble_eq_true rfl) rfl ?_
      refine wp_iconst (3 : Int32) 39 dX2_looseByDraw_38 kiconst_3 rfl ?_
      refine wp_iload_n 40 dX2_looseByDraw_39 rfl rfl ?_
      refine wp_imul 41 dX2_looseByDraw_40 rfl ?_
      refine wp_iload_n 42 dX2_looseByDraw_41 rfl rfl ?_
      refine wp_iadd 43 dX2_looseByDraw_42 rfl ?_
      refine wp_istore_n 44 dX2_looseByDraw_43 rfl (Nat.le_of_ble_eq_true rfl) rfl ?_
      refine wp_iload_n 45 dX2_looseByDraw_44 rfl rfl ?_
      refine wp_iconst (3 : Int32) 46 dX2_looseByDraw_45 kiconst_3 rfl ?_
      refine wp_icmp_eq 67 49 dX2_looseByDraw_46 rfl rfl ⟨fun c6 => ?_, fun c6 => ?_⟩
      · replace H := H.1 c6
        refine wp_iconst (0 : Int32) 68 dX2_looseByDraw_67 kiconst_0 rfl ?_
        exact wp_retz dX2_looseByDraw_68 rfl (Or.inl rfl) H
      · replace H := H.2 c6
        refine wp_aload_n 50 dX2_looseByDraw_49 rfl rfl ?_
        refine wp_iload_n 51 dX2_looseByDraw_50 rfl rfl ?_
        refine wp_aload_n 52 dX2_looseByDraw_51 rfl rfl ?_
        refine wp_getI 55 dX2_looseByDraw_52 rfl fl_X2_69 (kSea_0 k_b) rfl ?_
        refine wp_aload_n 56 dX2_looseByDraw_55 rfl rfl ?_
        refine wp_getR 3 (b + 3) 59 dX2_looseByDraw_56 rfl fl_X2_18 (kSea_0 k_b) rfl rfl rfl rfl ?_
        refine wp_iload_n 60 dX2_looseByDraw_59 rfl rfl ?_
        have c7 := H.1; replace H := H.2
        refine wp_iald 61 dX2_looseByDraw_60 rfl (kSea_3 k_b) c7 ?_
        have c8 := H.1; replace H := H.2
        refine wp_cV (d - 1) 3 [.int (((3 : Int32) * ((kDraw (h b 16)) - (kDraw (h b 16)) / (h2 b 12) * (h2 b 12))) + ((kDraw (h2 b 16)) - (kDraw (h2 b 16)) / (4 : Int32) * (4 : Int32))), .int (h5 b 13), .int (h5 (b + 3) (((kDraw (h b 16)) - (kDraw (h b 16)) / (h2 b 12) * (h2 b 12))).toNatClampNeg)] [] 64 dX2_looseByDraw_61 rfl (lk_X2_153 rfl) (by omega) (kSea_0 k_b) rfl rfl rfl (Nat.le_of_ble_eq_true rfl) (sp_X2_mayBeLoosed (by omega) k_b c8 ?_)
        refine wp_if_ne 69 67 dX2_looseByDraw_64 rfl rfl ⟨fun c9 => ?_, fun c9 => ?_⟩
        · replace H := H.1 c9
          refine wp_aload_n 70 dX2_looseByDraw_69 rfl rfl ?_
          refine wp_getR 8 (b + 8) 73 dX2_looseByDraw_70 rfl fl_X2_33 (kSea_0 k_b) rfl rfl rfl rfl ?_
          refine wp_iload_n 74 dX2_looseByDraw_73 rfl rfl ?_
          refine wp_aload_n 75 dX2_looseByDraw_74 rfl rfl ?_
          refine wp_getI 78 dX2_looseByDraw_75 rfl fl_X2_69 (kSea_0 k_b) rfl ?_
          have c10 := H.1; replace H := H.2
          refine wp_iast 79 dX2_looseByDraw_78 rfl (kSea_8 k_b) c10 ?_
          refine wp_nm (fun h11 eh11 => ?_)
          replace H := H h11 eh11
          refine wp_iconst (1 : Int32) 80 dX2_looseByDraw_79 kiconst_1 rfl ?_
          exact wp_retz dX2_looseByDraw_80 rfl (Or.inr rfl) H
        · replace H := H.2 c9
          refine wp_iconst (0 : Int32) 68 dX2_looseByDraw_67 kiconst_0 rfl ?_
          exact wp_retz dX2_looseByDraw_68 rfl (Or.inl rfl) H
    · replace H := H.2 c4
      refine wp_iconst (0 : Int32) 30 dX2_looseByDraw_29 kiconst_0 rfl ?_
      exact wp_retz dX2_looseByDraw_30 rfl (Or.inl rfl) H
  · replace H := H.2 c1
    refine wp_iconst (0 : Int32) 8 dX2_looseByDraw_7 kiconst_0 rfl ?_
    exact wp_retz dX2_looseByDraw_8 rfl (Or.inl rfl) H

theorem cg_X2_looseByDraw {G : kG} {d : Nat} {Q : Int32 → kM → Prop} {b : Nat}  {h : kM} (hd : 4 ≤ d) (k_b : kSea b) (H :
    ((¬ (h b 12) = 0 →
      ∀ h2 : kM, h2 = kU h b 16 (h b 16 * 1103515245 + 12345) →
      (¬ (h2 b 12) = 0) ∧
      ((¬ (kb (kDay (h2 b 13))) = 0 →
        ∀ h5 : kM, h5 = kU h2 b 16 (h2 b 16 * 1103515245 + 12345) →
        ((((kDraw (h2 b 16)) - (kDraw (h2 b 16)) / (4 : Int32) * (4 : Int32)) = (3 : Int32) →
          Q (0 : Int32) h5
        ) ∧ (¬ (((kDraw (h2 b 16)) - (kDraw (h2 b 16)) / (4 : Int32) * (4 : Int32)) = (3 : Int32)) →
          (vp_in ((kDraw (h b 16)) - (kDraw (h b 16)) / (h2 b 12) * (h2 b 12)) 5) ∧
          (vp_in (((3 : Int32) * ((kDraw (h b 16)) - (kDraw (h b 16)) / (h2 b 12) * (h2 b 12))) + ((kDraw (h2 b 16)) - (kDraw (h2 b 16)) / (4 : Int32) * (4 : Int32))) 15) ∧
          ((¬ (kb (h5 (b + 8) ((((3 : Int32) * ((kDraw (h b 16)) - (kDraw (h b 16)) / (h2 b 12) * (h2 b 12))) + ((kDraw (h2 b 16)) - (kDraw (h2 b 16)) / (4 : Int32) * (4 : Int32)))).toNatClampNeg = -1 ∧ kDay (h5 b 13) ∧ ¬ (h5 (b + 3) (((kDraw (h b 16)) - (kDraw (h b 16)) / (h2 b 12) * (h2 b 12))).toNatClampNeg) / 64 = 1)) = 0 →
            (vp_in (((3 : Int32) * ((kDraw (h b 16)) - (kDraw (h b 16)) / (h2 b 12) * (h2 b 12))) + ((kDraw (h2 b 16)) - (kDraw (h2 b 16)) / (4 : Int32) * (4 : Int32))) 15) ∧
            ∀ h11 : kM, h11 = kU h5 (b + 8) ((((3 : Int32) * ((kDraw (h b 16)) - (kDraw (h b 16)) / (h2 b 12) * (h2 b 12))) + ((kDraw (h2 b 16)) - (kDraw (h2 b 16)) / (4 : Int32) * (4 : Int32)))).toNatClampNeg (h5 b 13) →
            Q (1 : Int32) h11
          ) ∧ ((kb (h5 (b + 8) ((((3 : Int32) * ((kDraw (h b 16)) - (kDraw (h b 16)) / (h2 b 12) * (h2 b 12))) + ((kDraw (h2 b 16)) - (kDraw (h2 b 16)) / (4 : Int32) * (4 : Int32)))).toNatClampNeg = -1 ∧ kDay (h5 b 13) ∧ ¬ (h5 (b + 3) (((kDraw (h b 16)) - (kDraw (h b 16)) / (h2 b 12) * (h2 b 12))).toNatClampNeg) / 64 = 1)) = 0 →
            Q (0 : Int32) h5
          ))
        ))
      ) ∧ ((kb (kDay (h2 b 13))) = 0 →
        Q (0 : Int32) h2
      ))
    ) ∧ ((h b 12) = 0 →
      Q (0 : Int32) h
    ))) : Cal G d m_X2_looseByDraw [.ref b] h Q :=
  Cal.of [.ref b, .null, .null, .null] (by decide +kernel) (Nat.le_of_ble_eq_true rfl) rfl (sg_X2_looseByDraw_0 hd k_b H)

theorem sp_X2_looseByDraw (hd : 4 ≤ d) {b : Nat} (hb : kSea b) {g : Nat → Int32} {n H f w : Nat} (hS : kSRn (kVw h b) g n H f w) (h0 : 0 < n) (kk : ∀ h1 (y : kM × Int32), (∀ a, a ≠ b → a ≠ b + 8 → h1 a = h a) → kDl (kVw h b) = y → kVEq y.1 (kVw h1 b) → Q y.2 h1) : Cal G d m_X2_looseByDraw [.ref b] h Q := by
  have hn := hS.1.1
  have b12 : h b 12 = nI n := hS.1.2.1
  have z12 : ¬ h b 12 = 0 := by rw [b12]; exact nI_ne0 h0 (by omega)
  refine cg_X2_looseByDraw hd hb ⟨fun _ h2 e2 => ?_, fun z => absurd z z12⟩
  have o2 : ∀ a, a ≠ b → h2 a = h a := fun a ha => by rw [e2, kU_ne ha]
  have c12 : h2 b 12 = nI n := by rw [e2, kU_eq, pk_un (by decide), b12]
  have c13 : h2 b 13 = h b 13 := by rw [e2, kU_eq, pk_un (by decide)]
  have q2 := kZ_of e2
  have ea : kDraw (h b 16) = nI (kDn (kVw h b)) := (kDn_n (v := kVw h b)).2
  have la : kDn (kVw h b) < 2 ^ 24 := kDn_n.1
  have d2 : kDn (kVw h2 b) = kDn (kZ (kVw h b)) := by unfold kDn; rw [q2 0 (by decide) (by decide)]
  have ea2 : kDraw (h2 b 16) = nI (kDn (kZ (kVw h b))) := by rw [← d2]; exact (kDn_n (v := kVw h2 b)).2
  have la2 : kDn (kZ (kVw h b)) < 2 ^ 24 := kDn_n.1
  have hp : kDn (kVw h b) % n < n := Nat.mod_lt _ h0
  have er : kDraw (h b 16) - kDraw (h b 16) / h2 b 12 * h2 b 12 = nI (kDn (kVw h b) % n) := by
    rw [c12, ea]
    exact pk_rem (by omega) h0 (by omega)
  have er4 : kDraw (h2 b 16) - kDraw (h2 b 16) / 4 * 4 = nI (kDn (kZ (kVw h b)) % 4) := by
    rw [ea2]
    exact pk_rem (d := 4) (by omega) (by decide) (by decide)
  rw [er, er4, ix3, c13]
  refine ⟨by rw [c12]; exact nI_ne0 h0 (by omega), fun hday => ?_, fun hday => ?_⟩
  · have hday := kb_n0.mp hday
    intro h5 e5
    have o5 : ∀ a, a ≠ b → h5 a = h a := fun a ha => by rw [e5, kU_ne ha, o2 a ha]
    have q5 : kVEq (kZ (kZ (kVw h b))) (kVw h5 b) := (kZ_eq q2).tr (kZ_of e5)
    have c513 : h5 b 13 = h b 13 := by rw [e5, kU_eq, pk_un (by decide), c13]
    refine ⟨fun h3 => ?_, fun h3 => ?_⟩
    · have h3 : kDn (kZ (kVw h b)) % 4 = 3 := (nI_eq (b := 3) (by omega) (by decide)).mp h3
      exact kk h5 _ (fun a x _ => o5 a x) (kDl_3 hday h3) q5
    · have h3 : ¬ kDn (kZ (kVw h b)) % 4 = 3 := fun e => h3 (by rw [e]; rfl)
      have hj : kDn (kZ (kVw h b)) % 4 < 4 := Nat.mod_lt _ (by decide)
      obtain ⟨x, x1, x2, x3, x4, x5, x6, x7, x8, x9⟩ := (hS.2.2.2.2.2.2.2.1 (kDn (kVw h b) % n) hp).xy
      have x4 : h (b + 3) (kDn (kVw h b) % n) = kPl x := x4
      have vk : vp_in (nI (3 * (kDn (kVw h b) % n) + kDn (kZ (kVw h b)) % 4)) 15 := vp_in_nI (by omega) (by decide)
      refine ⟨vp_in_nI (by omega) (by decide), vk, ?_⟩
      rw [nI_clamp (n := 3 * (kDn (kVw h b) % n) + kDn (kZ (kVw h b)) % 4) (by omega), nI_clamp (n := kDn (kVw h b) % n) (by omega), c513, o5 (b + 3) (by omega), x4, kPl_st x1 x2, o5 (b + 8) (by omega)]
      have eq : kMy (kZ (kZ (kVw h b))) (kDn (kVw h b) % kNs (kVw h b)) (kDn (kZ (kVw h b)) % 4) ↔ (h (b + 8) (3 * (kDn (kVw h b) % n) + kDn (kZ (kVw h b)) % 4) = -1 ∧ kDay (h b 13) ∧ ¬ nI x.2 = 1) := by
        unfold kMy
        rw [hS.ns, kZ_c (v := kZ (kVw h b)) (a := 8) (by decide), kZ_c (v := kVw h b) (a := 8) (by decide), kZ_c (v := kZ (kVw h b)) (a := 3) (by decide), kZ_c (v := kVw h b) (a := 3) (by decide), kZ_s (v := kZ (kVw h b)) (by decide), kZ_s (v := kVw h b) (by decide), x5]
        exact Iff.rfl
      refine ⟨fun hm => ⟨vk, fun h11 e11 => ?_⟩, fun hm => ?_⟩
      · have hm := eq.mpr (kb_n0.mp hm)
        refine kk h11 _ (fun a x y => by rw [e11, kU_ne y, o5 a x]) (kDl_y hday h3 hm) (fun a y1 y2 => ?_)
        show h11 (b + a) = kLo (kZ (kZ (kVw h b))) (3 * (kDn (kVw h b) % kNs (kVw h b)) + kDn (kZ (kVw h b)) % 4) a
        rw [hS.ns]
        by_cases e8 : a = 8
        · subst e8
          rw [kLo_8, e11, kU_eq, o5 (b + 8) (by omega), kZ_c (by decide), kZ_c (by decide), kZ_s (by decide), kZ_s (by decide)]
          rfl
        · rw [kLo_c e8, e11, kU_ne (by omega)]
          exact q5 a y1 y2
      · have hm : ¬ kMy (kZ (kZ (kVw h b))) (kDn (kVw h b) % kNs (kVw h b)) (kDn (kZ (kVw h b)) % 4) := fun e => kb_0.mp hm (eq.mp e)
        exact kk h5 _ (fun a x _ => o5 a x) (kDl_o hday h3 hm) q5
  · exact kk h2 _ (fun a x _ => o2 a x) (kDl_n (kb_0.mp hday)) q2
/-- hours by draws: the view behind them, knots loosed -/
def kDq (v : kM) : Nat → kM
  | 0 => v
  | n + 1 => kHr (kDl (kDq v n)).1
def kDc (v : kM) : Nat → Int32
  | 0 => 0
  | n + 1 => kDc v n + (kDl (kDq v n)).2
theorem kSRn.dd {v : kM} {g : Nat → Int32} {n H f w : Nat} (hS : kSRn v g n H f w) (h0 : 0 < n) : ∀ (i : Nat), H + i ≤ 100000 → ∃ g', kSRn (kDq v i) g' n (H + i) f w
  | 0, _ => ⟨g, hS⟩
  | i + 1, hH => by
    obtain ⟨g1, h1⟩ := hS.dd h0 i (by omega)
    obtain ⟨g2, h2⟩ := h1.dl h0
    exact h2.hr (by omega)
def at_X7_draws_51 (G : kG) (d : Nat) (Q : Int32 → kM → Prop)  (v1 : Int32) (v2 : Int32) (v3 : Int32) (h : kM) : Prop := Wp G d m_X7_draws (kEo G d m_X7_draws Q) 51 [.ref 0, .int v1, .int v2, .int v3] [] h
theorem sg_X7_draws_0 {G : kG} {d : Nat} {Q : Int32 → kM → Prop}  {a1 : Int32} {h : kM} (hd : 7 ≤ d)  (H :
    ((¬ (kb ((1 : Int32) ≤ a1 ∧ a1 ≤ (48 : Int32))) = 0 →
      (((h 1 12) = 0 →
        (vp_in (3 : Int32) 7) ∧
        ∀ h4 : kM, h4 = kErr h 87 (3 : Int32) →
        Q (-1000000000 - (3 : Int32)) h4
      ) ∧ (¬ ((h 1 12) = 0) →
        ((((h 1 13) + a1) ≤ (9999 : Int32) →
          at_X7_draws_51 G d Q a1 (0 : Int32) (0 : Int32) h
        ) ∧ (¬ (((h 1 13) + a1) ≤ (9999 : Int32)) →
          (vp_in (3 : Int32) 7) ∧
          ∀ h7 : kM, h7 = kErr h 87 (3 : Int32) →
          Q (-1000000000 - (3 : Int32)) h7
        ))
      ))
    ) ∧ ((kb ((1 : Int32) ≤ a1 ∧ a1 ≤ (48 : Int32))) = 0 →
      (vp_in (1 : Int32) 7) ∧
      ∀ h9 : kM, h9 = kErr h 87 (1 : Int32) →
      Q (-1000000000 - (1 : Int32)) h9
    ))) : Wp G d m_X7_draws (kEo G d m_X7_draws Q) 0 [.ref 0, .int a1, .null, .null] [] h := by
  refine wp_iload_n 1 dX7_draws_0 rfl rfl ?_
  refine wp_iconst (1 : Int32) 2 dX7_draws_1 kiconst_1 rfl ?_
  refine wp_bipush (48 : Int32) 4 dX7_draws_2 kbipush_48 rfl ?_
  refine wp_cS (d - 1) 3 [.int a1, .int (1 : Int32), .int (48 : Int32)] [] 7 dX7_draws_4 rfl (lk_X7_69 rfl) (by omega) rfl rfl (Nat.le_of_ble_eq_true rfl) (sp_X7_between (by omega)  ?_)
  refine wp_if_ne 16 10 dX7_draws_7 rfl rfl ⟨fun c1 => ?_, fun c1 => ?_⟩
  · replace H := H.1 c1
    refine wp_aload_n 17 dX7_draws_16 rfl rfl ?_
    refine wp_getR 1 1 20 dX7_draws_17 rfl fl_X7_12 kd_0 rfl rfl rfl rfl ?_
    refine wp_getI 23 dX7_draws_20 rfl fl_X7_76 kd_1 rfl ?_
    refine wp_if_eq 41 26 dX7_draws_23 rfl rfl ⟨fun c2 => ?_, fun c2 => ?_⟩
    · replace H := H.1 c2
      refine wp_aload_n 42 dX7_draws_41 rfl rfl ?_
      refine wp_iconst (3 : Int32) 43 dX7_draws_42 kiconst_3 rfl ?_
      have c3 := H.1; replace H := H.2
      refine wp_cV (d - 1) 1 [.int (3 : Int32)] [] 46 dX7_draws_43 rfl (lk_X7_62 rfl) (by omega) kd_0 rfl rfl rfl (Nat.le_of_ble_eq_true rfl) (sp_X7_error (by omega) c3 (fun h4 eh4 => ?_))
      replace H := H h4 eh4
      exact wp_reti dX7_draws_46 rfl H
    · replace H := H.2 c2
      refine wp_aload_n 27 dX7_draws_26 rfl rfl ?_
      refine wp_getR 1 1 30 dX7_draws_27 rfl fl_X7_12 kd_0 rfl rfl rfl rfl ?_
      refine wp_getI 33 dX7_draws_30 rfl fl_X7_126 kd_1 rfl ?_
      refine wp_iload_n 34 dX7_draws_33 rfl rfl ?_
      refine wp_iadd 35 dX7_draws_34 rfl ?_
      refine wp_sipush (9999 : Int32) 38 dX7_draws_35 ksipush_9999 rfl ?_
      refine wp_icmp_le 47 41 dX7_draws_38 rfl rfl ⟨fun c5 => ?_, fun c5 => ?_⟩
      · replace H := H.1 c5
        refine wp_iconst (0 : Int32) 48 dX7_draws_47 kiconst_0 rfl ?_
        refine wp_istore_n 49 dX7_draws_48 rfl (Nat.le_of_ble_eq_true rfl) rfl ?_
        refine wp_iconst (0 : Int32) 50 dX7_draws_49 kiconst_0 rfl ?_
        refine wp_istore_n 51 dX7_draws_50 rfl (Nat.le_of_ble_eq_true rfl) rfl ?_
        exact H
      · replace H := H.2 c5
        refine wp_aload_n 42 dX7_draws_41 rfl rfl ?_
        refine wp_iconst (3 : Int32) 43 dX7_draws_42 kiconst_3 rfl ?_
        have c6 := H.1; replace H := H.2
        refine wp_cV (d - 1) 1 [.int (3 : Int32)] [] 46 dX7_draws_43 rfl (lk_X7_62 rfl) (by omega) kd_0 rfl rfl rfl (Nat.le_of_ble_eq_true rfl) (sp_X7_error (by omega) c6 (fun h7 eh7 => ?_))
        replace H := H h7 eh7
        exact wp_reti dX7_draws_46 rfl H
  · replace H := H.2 c1
    refine wp_aload_n 11 dX7_draws_10 rfl rfl ?_
    refine wp_iconst (1 : Int32) 12 dX7_draws_11 kiconst_1 rfl ?_
    have c8 := H.1; replace H := H.2
    refine wp_cV (d - 1) 1 [.int (1 : Int32)] [] 15 dX7_draws_12 rfl (lk_X7_62 rfl) (by omega) kd_0 rfl rfl rfl (Nat.le_of_ble_eq_true rfl) (sp_X7_error (by omega) c8 (fun h9 eh9 => ?_))
    replace H := H h9 eh9
    exact wp_reti dX7_draws_15 rfl H

theorem cg_X7_draws {G : kG} {d : Nat} {Q : Int32 → kM → Prop}  {a1 : Int32} {h : kM} (hd : 7 ≤ d)  (H :
    ((¬ (kb ((1 : Int32) ≤ a1 ∧ a1 ≤ (48 : Int32))) = 0 →
      (((h 1 12) = 0 →
        (vp_in (3 : Int32) 7) ∧
        ∀ h4 : kM, h4 = kErr h 87 (3 : Int32) →
        Q (-1000000000 - (3 : Int32)) h4
      ) ∧ (¬ ((h 1 12) = 0) →
        ((((h 1 13) + a1) ≤ (9999 : Int32) →
          at_X7_draws_51 G d Q a1 (0 : Int32) (0 : Int32) h
        ) ∧ (¬ (((h 1 13) + a1) ≤ (9999 : Int32)) →
          (vp_in (3 : Int32) 7) ∧
          ∀ h7 : kM, h7 = kErr h 87 (3 : Int32) →
          Q (-1000000000 - (3 : Int32)) h7
        ))
      ))
    ) ∧ ((kb ((1 : Int32) ≤ a1 ∧ a1 ≤ (48 : Int32))) = 0 →
      (vp_in (1 : Int32) 7) ∧
      ∀ h9 : kM, h9 = kErr h 87 (1 : Int32) →
      Q (-1000000000 - (1 : Int32)) h9
    ))) : Cal G d m_X7_draws [.ref 0, .int a1] h Q :=
  Cal.of [.ref 0, .int a1, .null, .null] (by decide +kernel) (Nat.le_of_ble_eq_true rfl) rfl (sg_X7_draws_0 hd  H)

theorem sg_X7_draws_51 {G : kG} {d : Nat} {Q : Int32 → kM → Prop}  {v1 : Int32} {v2 : Int32} {v3 : Int32} {h : kM} (hd : 7 ≤ d)  (H :
    ((v1 ≤ v3 →
      Q v2 h
    ) ∧ (¬ (v1 ≤ v3) →
      Cal G (d - 1) m_X2_looseByDraw [.ref 1] h (fun x2 h3 =>
        ((x2 = 0 →
          Cal G (d - 1) m_X2_passHour [.ref 1] h3 (fun x5 h6 =>
            at_X7_draws_51 G d Q v1 v2 (v3 + (1 : Int32)) h6
          )
        ) ∧ (¬ (x2 = 0) →
          Cal G (d - 1) m_X2_passHour [.ref 1] h3 (fun x7 h8 =>
            at_X7_draws_51 G d Q v1 (v2 + (1 : Int32)) (v3 + (1 : Int32)) h8
          )
        ))
      )
    ))) : at_X7_draws_51 G d Q v1 v2 v3 h := by
  show Wp G d m_X7_draws (kEo G d m_X7_draws Q) 51 [.ref 0, .int v1, .int v2, .int v3] [] h
  refine wp_iload_n 52 dX7_draws_51 rfl rfl ?_
  refine wp_iload_n 53 dX7_draws_52 rfl rfl ?_
  refine wp_icmp_ge 82 56 dX7_draws_53 rfl rfl ⟨fun c1 => ?_, fun c1 => ?_⟩
  · replace H := H.1 c1
    refine wp_iload_n 83 dX7_draws_82 rfl rfl ?_
    exact wp_reti dX7_draws_83 rfl H
  · replace H := H.2 c1
    refine wp_aload_n 57 dX7_draws_56 rfl rfl ?_
    refine wp_getR 1 1 60 dX7_draws_57 rfl fl_X7_12 kd_0 rfl rfl rfl rfl ?_
    refine wp_cV (d - 1) 0 [] [] 63 dX7_draws_60 rfl (lk_X7_180 rfl) (by omega) kd_1 rfl rfl rfl (Nat.le_of_ble_eq_true rfl) (H.mono (fun x2 h3 H => ?_))
    refine wp_if_eq 69 66 dX7_draws_63 rfl rfl ⟨fun c4 => ?_, fun c4 => ?_⟩
    · replace H := H.1 c4
      refine wp_aload_n 70 dX7_draws_69 rfl rfl ?_
      refine wp_getR 1 1 73 dX7_draws_70 rfl fl_X7_12 kd_0 rfl rfl rfl rfl ?_
      refine wp_cV (d - 1) 0 [] [] 76 dX7_draws_73 rfl (lk_X7_174 rfl) (by omega) kd_1 rfl rfl rfl (Nat.le_of_ble_eq_true rfl) (H.mono (fun x5 h6 H => ?_))
      refine wp_iinc (1 : Int32) 79 dX7_draws_76 rfl rfl kiconst_1 (Nat.le_of_ble_eq_true rfl) rfl ?_
      refine wp_goto 51 dX7_draws_79 rfl ?_
      exact H
    · replace H := H.2 c4
      refine wp_iinc (1 : Int32) 69 dX7_draws_66 rfl rfl kiconst_1 (Nat.le_of_ble_eq_true rfl) rfl ?_
      refine wp_aload_n 70 dX7_draws_69 rfl rfl ?_
      refine wp_getR 1 1 73 dX7_draws_70 rfl fl_X7_12 kd_0 rfl rfl rfl rfl ?_
      refine wp_cV (d - 1) 0 [] [] 76 dX7_draws_73 rfl (lk_X7_174 rfl) (by omega) kd_1 rfl rfl rfl (Nat.le_of_ble_eq_true rfl) (H.mono (fun x7 h8 H => ?_))
      refine wp_iinc (1 : Int32) 79 dX7_draws_76 rfl rfl kiconst_1 (Nat.le_of_ble_eq_true rfl) rfl ?_
      refine wp_goto 51 dX7_draws_79 rfl ?_
      exact H

def at_X8_draws_49 (G : kG) (d : Nat) (Q : Int32 → kM → Prop)  (v1 : Int32) (v2 : Int32) (v3 : Int32) (h : kM) : Prop := Wp G d m_X8_draws (kEo G d m_X8_draws Q) 49 [.ref 88, .int v1, .int v2, .int v3, .null, .null] [] h
theorem sg_X8_draws_0 {G : kG} {d : Nat} {Q : Int32 → kM → Prop}  {a1 : Int32} {h : kM} (hd : 9 ≤ d)  (H :
    ((¬ (kb ((1 : Int32) ≤ a1 ∧ a1 ≤ (48 : Int32))) = 0 →
      (((h 89 0) = 0 →
        (vp_in (3 : Int32) 7) ∧
        ∀ h4 : kM, h4 = kErr h 93 (3 : Int32) →
        Q (-1000000000 - (3 : Int32)) h4
      ) ∧ (¬ ((h 89 0) = 0) →
        ((((h 89 1) + a1) ≤ (9999 : Int32) →
          at_X8_draws_49 G d Q a1 (0 : Int32) (0 : Int32) h
        ) ∧ (¬ (((h 89 1) + a1) ≤ (9999 : Int32)) →
          (vp_in (3 : Int32) 7) ∧
          ∀ h7 : kM, h7 = kErr h 93 (3 : Int32) →
          Q (-1000000000 - (3 : Int32)) h7
        ))
      ))
    ) ∧ ((kb ((1 : Int32) ≤ a1 ∧ a1 ≤ (48 : Int32))) = 0 →
      (vp_in (1 : Int32) 7) ∧
      ∀ h9 : kM, h9 = kErr h 93 (1 : Int32) →
      Q (-1000000000 - (1 : Int32)) h9
    ))) : Wp G d m_X8_draws (kEo G d m_X8_draws Q) 0 [.ref 88, .int a1, .null, .null, .null, .null] [] h := by
  refine wp_iload_n 1 dX8_draws_0 rfl rfl ?_
  refine wp_iconst (1 : Int32) 2 dX8_draws_1 kiconst_1 rfl ?_
  refine wp_bipush (48 : Int32) 4 dX8_draws_2 kbipush_48 rfl ?_
  refine wp_cS (d - 1) 3 [.int a1, .int (1 : Int32), .int (48 : Int32)] [] 7 dX8_draws_4 rfl (lk_X8_50 rfl) (by omega) rfl rfl (Nat.le_of_ble_eq_true rfl) (sp_X8_in (by omega)  ?_)
  refine wp_if_ne 16 10 dX8_draws_7 rfl rfl ⟨fun c1 => ?_, fun c1 => ?_⟩
  · replace H := H.1 c1
    refine wp_aload_n 17 dX8_draws_16 rfl rfl ?_
    refine wp_getR 1 89 20 dX8_draws_17 rfl fl_X8_7 kd_88 rfl rfl rfl rfl ?_
    refine wp_iconst (0 : Int32) 21 dX8_draws_20 kiconst_0 rfl ?_
    refine wp_iald 22 dX8_draws_21 rfl kd_89 (by unfold vp_in; decide) ?_
    refine wp_if_eq 39 25 dX8_draws_22 rfl rfl ⟨fun c2 => ?_, fun c2 => ?_⟩
    · replace H := H.1 c2
      refine wp_aload_n 40 dX8_draws_39 rfl rfl ?_
      refine wp_iconst (3 : Int32) 41 dX8_draws_40 kiconst_3 rfl ?_
      have c3 := H.1; replace H := H.2
      refine wp_cV (d - 1) 1 [.int (3 : Int32)] [] 44 dX8_draws_41 rfl (lk_X8_62 rfl) (by omega) kd_88 rfl rfl rfl (Nat.le_of_ble_eq_true rfl) (sp_X8_error (by omega) c3 (fun h4 eh4 => ?_))
      replace H := H h4 eh4
      exact wp_reti dX8_draws_44 rfl H
    · replace H := H.2 c2
      refine wp_aload_n 26 dX8_draws_25 rfl rfl ?_
      refine wp_getR 1 89 29 dX8_draws_26 rfl fl_X8_7 kd_88 rfl rfl rfl rfl ?_
      refine wp_iconst (1 : Int32) 30 dX8_draws_29 kiconst_1 rfl ?_
      refine wp_iald 31 dX8_draws_30 rfl kd_89 (by unfold vp_in; decide) ?_
      refine wp_iload_n 32 dX8_draws_31 rfl rfl ?_
      refine wp_iadd 33 dX8_draws_32 rfl ?_
      refine wp_sipush (9999 : Int32) 36 dX8_draws_33 ksipush_9999 rfl ?_
      refine wp_icmp_le 45 39 dX8_draws_36 rfl rfl ⟨fun c5 => ?_, fun c5 => ?_⟩
      · replace H := H.1 c5
        refine wp_iconst (0 : Int32) 46 dX8_draws_45 kiconst_0 rfl ?_
        refine wp_istore_n 47 dX8_draws_46 rfl (Nat.le_of_ble_eq_true rfl) rfl ?_
        refine wp_iconst (0 : Int32) 48 dX8_draws_47 kiconst_0 rfl ?_
        refine wp_istore_n 49 dX8_draws_48 rfl (Nat.le_of_ble_eq_true rfl) rfl ?_
        exact H
      · replace H := H.2 c5
        refine wp_aload_n 40 dX8_draws_39 rfl rfl ?_
        refine wp_iconst (3 : Int32) 41 dX8_draws_40 kiconst_3 rfl ?_
        have c6 := H.1; replace H := H.2
        refine wp_cV (d - 1) 1 [.int (3 : Int32)] [] 44 dX8_draws_41 rfl (lk_X8_62 rfl) (by omega) kd_88 rfl rfl rfl (Nat.le_of_ble_eq_true rfl) (sp_X8_error (by omega) c6 (fun h7 eh7 => ?_))
        replace H := H h7 eh7
        exact wp_reti dX8_draws_44 rfl H
  · replace H := H.2 c1
    refine wp_aload_n 11 dX8_draws_10 rfl rfl ?_
    refine wp_iconst (1 : Int32) 12 dX8_draws_11 kiconst_1 rfl ?_
    have c8 := H.1; replace H := H.2
    refine wp_cV (d - 1) 1 [.int (1 : Int32)] [] 15 dX8_draws_12 rfl (lk_X8_62 rfl) (by omega) kd_88 rfl rfl rfl (Nat.le_of_ble_eq_true rfl) (sp_X8_error (by omega) c8 (fun h9 eh9 => ?_))
    replace H := H h9 eh9
    exact wp_reti dX8_draws_15 rfl H

theorem cg_X8_draws {G : kG} {d : Nat} {Q : Int32 → kM → Prop}  {a1 : Int32} {h : kM} (hd : 9 ≤ d)  (H :
    ((¬ (kb ((1 : Int32) ≤ a1 ∧ a1 ≤ (48 : Int32))) = 0 →
      (((h 89 0) = 0 →
        (vp_in (3 : Int32) 7) ∧
        ∀ h4 : kM, h4 = kErr h 93 (3 : Int32) →
        Q (-1000000000 - (3 : Int32)) h4
      ) ∧ (¬ ((h 89 0) = 0) →
        ((((h 89 1) + a1) ≤ (9999 : Int32) →
          at_X8_draws_49 G d Q a1 (0 : Int32) (0 : Int32) h
        ) ∧ (¬ (((h 89 1) + a1) ≤ (9999 : Int32)) →
          (vp_in (3 : Int32) 7) ∧
          ∀ h7 : kM, h7 = kErr h 93 (3 : Int32) →
          Q (-1000000000 - (3 : Int32)) h7
        ))
      ))
    ) ∧ ((kb ((1 : Int32) ≤ a1 ∧ a1 ≤ (48 : Int32))) = 0 →
      (vp_in (1 : Int32) 7) ∧
      ∀ h9 : kM, h9 = kErr h 93 (1 : Int32) →
      Q (-1000000000 - (1 : Int32)) h9
    ))) : Cal G d m_X8_draws [.ref 88, .int a1] h Q :=
  Cal.of [.ref 88, .int a1, .null, .null, .null, .null] (by decide +kernel) (Nat.le_of_ble_eq_true rfl) rfl (sg_X8_draws_0 hd  H)

theorem sg_X8_draws_49 {G : kG} {d : Nat} {Q : Int32 → kM → Prop}  {v1 : Int32} {v2 : Int32} {v3 : Int32} {h : kM} (hd : 9 ≤ d)  (H :
    ((v1 ≤ v3 →
      Q v2 h
    ) ∧ (¬ (v1 ≤ v3) →
      ∀ h2 : kM, h2 = kU h 89 6 (h 89 6 * 1103515245 + 12345) →
      (¬ (h2 89 0) = 0) ∧
      (((kb (kDay (h2 89 1))) = 0 →
        Cal G (d - 1) m_X8_hour [.ref 88] h2 (fun x5 h6 =>
          at_X8_draws_49 G d Q v1 v2 (v3 + (1 : Int32)) h6
        )
      ) ∧ (¬ ((kb (kDay (h2 89 1))) = 0) →
        ∀ h7 : kM, h7 = kU h2 89 6 (h2 89 6 * 1103515245 + 12345) →
        (((3 : Int32) ≤ ((kDraw (h2 89 6)) - (kDraw (h2 89 6)) / (4 : Int32) * (4 : Int32)) →
          Cal G (d - 1) m_X8_hour [.ref 88] h7 (fun x9 h10 =>
            at_X8_draws_49 G d Q v1 v2 (v3 + (1 : Int32)) h10
          )
        ) ∧ (¬ ((3 : Int32) ≤ ((kDraw (h2 89 6)) - (kDraw (h2 89 6)) / (4 : Int32) * (4 : Int32))) →
          (okI (((3 : Int32) * ((kDraw (h 89 6)) - (kDraw (h 89 6)) / (h2 89 0) * (h2 89 0))) + ((kDraw (h2 89 6)) - (kDraw (h2 89 6)) / (4 : Int32) * (4 : Int32))) 3 ∧ okO ((((3 : Int32) * ((kDraw (h 89 6)) - (kDraw (h 89 6)) / (h2 89 0) * (h2 89 0))) + ((kDraw (h2 89 6)) - (kDraw (h2 89 6)) / (4 : Int32) * (4 : Int32))) / 3) 2) ∧
          (((kb (mIt (h7 89) (((3 : Int32) * ((kDraw (h 89 6)) - (kDraw (h 89 6)) / (h2 89 0) * (h2 89 0))) + ((kDraw (h2 89 6)) - (kDraw (h2 89 6)) / (4 : Int32) * (4 : Int32))) 3 = -1 ∧ kDay (h7 89 1) ∧ ¬ mOf (h7 89) ((((3 : Int32) * ((kDraw (h 89 6)) - (kDraw (h 89 6)) / (h2 89 0) * (h2 89 0))) + ((kDraw (h2 89 6)) - (kDraw (h2 89 6)) / (4 : Int32) * (4 : Int32))) / 3) 2 = 1)) = 0 →
            Cal G (d - 1) m_X8_hour [.ref 88] h7 (fun x13 h14 =>
              at_X8_draws_49 G d Q v1 v2 (v3 + (1 : Int32)) h14
            )
          ) ∧ (¬ ((kb (mIt (h7 89) (((3 : Int32) * ((kDraw (h 89 6)) - (kDraw (h 89 6)) / (h2 89 0) * (h2 89 0))) + ((kDraw (h2 89 6)) - (kDraw (h2 89 6)) / (4 : Int32) * (4 : Int32))) 3 = -1 ∧ kDay (h7 89 1) ∧ ¬ mOf (h7 89) ((((3 : Int32) * ((kDraw (h 89 6)) - (kDraw (h 89 6)) / (h2 89 0) * (h2 89 0))) + ((kDraw (h2 89 6)) - (kDraw (h2 89 6)) / (4 : Int32) * (4 : Int32))) / 3) 2 = 1)) = 0) →
            (okI (((3 : Int32) * ((kDraw (h 89 6)) - (kDraw (h 89 6)) / (h2 89 0) * (h2 89 0))) + ((kDraw (h2 89 6)) - (kDraw (h2 89 6)) / (4 : Int32) * (4 : Int32))) 3) ∧
            ∀ h16 : kM, h16 = mLo h7 (((3 : Int32) * ((kDraw (h 89 6)) - (kDraw (h 89 6)) / (h2 89 0) * (h2 89 0))) + ((kDraw (h2 89 6)) - (kDraw (h2 89 6)) / (4 : Int32) * (4 : Int32))) →
            Cal G (d - 1) m_X8_hour [.ref 88] h16 (fun x17 h18 =>
              at_X8_draws_49 G d Q v1 (v2 + (1 : Int32)) (v3 + (1 : Int32)) h18
            )
          ))
        ))
      ))
    ))) : at_X8_draws_49 G d Q v1 v2 v3 h := by
  show Wp G d m_X8_draws (kEo G d m_X8_draws Q) 49 [.ref 88, .int v1, .int v2, .int v3, .null, .null] [] h
  refine wp_iload_n 50 dX8_draws_49 rfl rfl ?_
  refine wp_iload_n 51 dX8_draws_50 rfl rfl ?_
  refine wp_icmp_ge 130 54 dX8_draws_51 rfl rfl ⟨fun c1 => ?_, fun c1 => ?_⟩
  · replace H := H.1 c1
    refine wp_iload_n 131 dX8_draws_130 rfl rfl ?_
    exact wp_reti dX8_draws_131 rfl H
  · replace H := H.2 c1
    refine wp_aload_n 55 dX8_draws_54 rfl rfl ?_
    refine wp_cV (d - 1) 0 [] [] 58 dX8_draws_55 rfl (lk_X8_197 rfl) (by omega) kd_88 rfl rfl rfl (Nat.le_of_ble_eq_true rfl) (sp_X8_draw (by omega)  (fun h2 eh2 => ?_))
    replace H := H h2 eh2
    refine wp_aload_n 59 dX8_draws_58 rfl rfl ?_
    refine wp_getR 1 89 62 dX8_draws_59 rfl fl_X8_7 kd_88 rfl rfl rfl rfl ?_
    refine wp_iconst (0 : Int32) 63 dX8_draws_62 kiconst_0 rfl ?_
    refine wp_iald 64 dX8_draws_63 rfl kd_89 (by unfold vp_in; decide) ?_
    have c3 := H.1; replace H := H.2
    refine wp_irem 65 dX8_draws_64 c3 rfl ?_
    refine wp_istore 67 dX8_draws_65 rfl (Nat.le_of_ble_eq_true rfl) rfl ?_
    refine wp_aload_n 68 dX8_draws_67 rfl rfl ?_
    refine wp_cV (d - 1) 0 [] [] 71 dX8_draws_68 rfl (lk_X8_171 rfl) (by omega) kd_88 rfl rfl rfl (Nat.le_of_ble_eq_true rfl) (sp_X8_isDay (by omega)  ?_)
    refine wp_if_eq 83 74 dX8_draws_71 rfl rfl ⟨fun c4 => ?_, fun c4 => ?_⟩
    · replace H := H.1 c4
      refine wp_iconst (3 : Int32) 84 dX8_draws_83 kiconst_3 rfl ?_
      refine wp_istore 86 dX8_draws_84 rfl (Nat.le_of_ble_eq_true rfl) rfl ?_
      refine wp_iload 88 dX8_draws_86 rfl rfl ?_
      refine wp_iconst (3 : Int32) 89 dX8_draws_88 kiconst_3 rfl ?_
      refine wp_icmp_ge 120 92 dX8_draws_89 rfl rfl ⟨fun c => ?_, fun c => absurd (by decide) c⟩
      refine wp_aload_n 121 dX8_draws_120 rfl rfl ?_
      refine wp_cV (d - 1) 0 [] [] 124 dX8_draws_121 rfl (lk_X8_187 rfl) (by omega) kd_88 rfl rfl rfl (Nat.le_of_ble_eq_true rfl) (H.mono (fun x5 h6 H => ?_))
      refine wp_iinc (1 : Int32) 127 dX8_draws_124 rfl rfl kiconst_1 (Nat.le_of_ble_eq_true rfl) rfl ?_
      refine wp_goto 49 dX8_draws_127 rfl ?_
      refine wp_drop 4 ?_
      refine wp_drop 5 ?_
      exact H
    · replace H := H.2 c4
      refine wp_aload_n 75 dX8_draws_74 rfl rfl ?_
      refine wp_cV (d - 1) 0 [] [] 78 dX8_draws_75 rfl (lk_X8_197 rfl) (by omega) kd_88 rfl rfl rfl (Nat.le_of_ble_eq_true rfl) (sp_X8_draw (by omega)  (fun h7 eh7 => ?_))
      replace H := H h7 eh7
      refine wp_iconst (4 : Int32) 79 dX8_draws_78 kiconst_4 rfl ?_
      refine wp_irem 80 dX8_draws_79 (by decide) rfl ?_
      refine wp_goto 84 dX8_draws_80 rfl ?_
      refine wp_istore 86 dX8_draws_84 rfl (Nat.le_of_ble_eq_true rfl) rfl ?_
      refine wp_iload 88 dX8_draws_86 rfl rfl ?_
      refine wp_iconst (3 : Int32) 89 dX8_draws_88 kiconst_3 rfl ?_
      refine wp_icmp_ge 120 92 dX8_draws_89 rfl rfl ⟨fun c8 => ?_, fun c8 => ?_⟩
      · replace H := H.1 c8
        refine wp_aload_n 121 dX8_draws_120 rfl rfl ?_
        refine wp_cV (d - 1) 0 [] [] 124 dX8_draws_121 rfl (lk_X8_187 rfl) (by omega) kd_88 rfl rfl rfl (Nat.le_of_ble_eq_true rfl) (H.mono (fun x9 h10 H => ?_))
        refine wp_iinc (1 : Int32) 127 dX8_draws_124 rfl rfl kiconst_1 (Nat.le_of_ble_eq_true rfl) rfl ?_
        refine wp_goto 49 dX8_draws_127 rfl ?_
        refine wp_drop 4 ?_
        refine wp_drop 5 ?_
        exact H
      · replace H := H.2 c8
        refine wp_aload_n 93 dX8_draws_92 rfl rfl ?_
        refine wp_iconst (3 : Int32) 94 dX8_draws_93 kiconst_3 rfl ?_
        refine wp_iload 96 dX8_draws_94 rfl rfl ?_
        refine wp_imul 97 dX8_draws_96 rfl ?_
        refine wp_iload 99 dX8_draws_97 rfl rfl ?_
        refine wp_iadd 100 dX8_draws_99 rfl ?_
        have c11 := H.1; replace H := H.2
        refine wp_cV (d - 1) 1 [.int (((3 : Int32) * ((kDraw (h 89 6)) - (kDraw (h 89 6)) / (h2 89 0) * (h2 89 0))) + ((kDraw (h2 89 6)) - (kDraw (h2 89 6)) / (4 : Int32) * (4 : Int32)))] [] 103 dX8_draws_100 rfl (lk_X8_174 rfl) (by omega) kd_88 rfl rfl rfl (Nat.le_of_ble_eq_true rfl) (sp_X8_mayLoose (by omega) c11 ?_)
        refine wp_if_eq 120 106 dX8_draws_103 rfl rfl ⟨fun c12 => ?_, fun c12 => ?_⟩
        · replace H := H.1 c12
          refine wp_aload_n 121 dX8_draws_120 rfl rfl ?_
          refine wp_cV (d - 1) 0 [] [] 124 dX8_draws_121 rfl (lk_X8_187 rfl) (by omega) kd_88 rfl rfl rfl (Nat.le_of_ble_eq_true rfl) (H.mono (fun x13 h14 H => ?_))
          refine wp_iinc (1 : Int32) 127 dX8_draws_124 rfl rfl kiconst_1 (Nat.le_of_ble_eq_true rfl) rfl ?_
          refine wp_goto 49 dX8_draws_127 rfl ?_
          refine wp_drop 4 ?_
          refine wp_drop 5 ?_
          exact H
        · replace H := H.2 c12
          refine wp_aload_n 107 dX8_draws_106 rfl rfl ?_
          refine wp_iconst (3 : Int32) 108 dX8_draws_107 kiconst_3 rfl ?_
          refine wp_iload 110 dX8_draws_108 rfl rfl ?_
          refine wp_imul 111 dX8_draws_110 rfl ?_
          refine wp_iload 113 dX8_draws_111 rfl rfl ?_
          refine wp_iadd 114 dX8_draws_113 rfl ?_
          have c15 := H.1; replace H := H.2
          refine wp_cV (d - 1) 1 [.int (((3 : Int32) * ((kDraw (h 89 6)) - (kDraw (h 89 6)) / (h2 89 0) * (h2 89 0))) + ((kDraw (h2 89 6)) - (kDraw (h2 89 6)) / (4 : Int32) * (4 : Int32)))] [] 117 dX8_draws_114 rfl (lk_X8_177 rfl) (by omega) kd_88 rfl rfl rfl (Nat.le_of_ble_eq_true rfl) (sp_X8_looses (by omega) c15 (fun h16 eh16 => ?_))
          replace H := H h16 eh16
          refine wp_iinc (1 : Int32) 120 dX8_draws_117 rfl rfl kiconst_1 (Nat.le_of_ble_eq_true rfl) rfl ?_
          refine wp_aload_n 121 dX8_draws_120 rfl rfl ?_
          refine wp_cV (d - 1) 0 [] [] 124 dX8_draws_121 rfl (lk_X8_187 rfl) (by omega) kd_88 rfl rfl rfl (Nat.le_of_ble_eq_true rfl) (H.mono (fun x17 h18 H => ?_))
          refine wp_iinc (1 : Int32) 127 dX8_draws_124 rfl rfl kiconst_1 (Nat.le_of_ble_eq_true rfl) rfl ?_
          refine wp_goto 49 dX8_draws_127 rfl ?_
          refine wp_drop 4 ?_
          refine wp_drop 5 ?_
          exact H

def kPsD (h h' : kM) (i : Nat) : Prop := (∀ a, a ≠ 1 → a ≠ 4 → a ≠ 9 → a ≠ 14 → a ≠ 17 → h' a = h a) ∧ kVEq (kDq (kVw h 1) i) (kVw h' 1)
theorem lp_draws (hd : 7 ≤ d) {g : Nat → Int32} {n H f w : Nat} (hS : kSRn (kVw h 1) g n H f w) (h0 : 0 < n) {N : Nat} (hN : N ≤ 48) (hH : H ≤ 9999) (kk : ∀ h1, kPsD h h1 N → Q (kDc (kVw h 1) N) h1) : ∀ (m i : Nat) (h1 : kM), i + m = N → kPsD h h1 i → at_X7_draws_51 G d Q (nI N) (kDc (kVw h 1) i) (nI i) h1 := by
  intro m
  induction m with
  | zero =>
    intro i h1 hi q
    have hi2 : i = N := by omega
    subst hi2
    exact sg_X7_draws_51 hd ⟨fun _ => kk h1 q, fun z => absurd (nI_le (Nat.le_refl _) (by omega)) z⟩
  | succ m ih =>
    intro i h1 hi q
    obtain ⟨g', hg'⟩ := hS.dd h0 i (by omega)
    obtain ⟨g2, hg2⟩ := hg'.dl h0
    refine sg_X7_draws_51 hd ⟨fun z => absurd z (ltn (nI_lt (by omega) (by omega))), fun _ => ?_⟩
    refine sp_X2_looseByDraw (d := d - 1) (by omega) kSea_is1 (hg'.eq q.2) h0 (fun h2 y o2 ey q2 => ?_)
    obtain ⟨f1, f2⟩ := kDl_eq q.2
    rw [ey] at f1 f2
    have q3 : kVEq (kDl (kDq (kVw h 1) i)).1 (kVw h2 1) := f2.tr q2
    have st : ∀ h3, kPs 1 h2 h3 → at_X7_draws_51 G d Q (nI N) (kDc (kVw h 1) i + y.2) (nI (i + 1)) h3 := fun h3 p3 => by
      rw [f1]
      refine ih (i + 1) h3 (by omega) ⟨fun a a1 a2 a3 a4 a5 => by rw [p3.1 a a1 a2 a4 a5, o2 a a1 a3, q.1 a a1 a2 a3 a4 a5], ?_⟩
      exact (kHr_eq q3).tr p3.2
    rw [nI_1]
    refine ⟨fun z => sp_X2_passHour (d := d - 1) (by omega) kSea_is1 (hg2.eq q3) (fun h3 p3 => ?_), fun z => sp_X2_passHour (d := d - 1) (by omega) kSea_is1 (hg2.eq q3) (fun h3 p3 => ?_)⟩
    · have s := st h3 p3
      rw [z, Int32.add_zero] at s
      exact s
    · have s := st h3 p3
      have y1 : y.2 = 1 := by
        rcases kDl_01 (kDq (kVw h 1) i) with e | e
        · exact absurd (f1.trans e) z
        · exact f1.trans e
      rw [y1] at s
      exact s
theorem lp_mdraws (hd : 9 ≤ d) {v : kM} {n H f w N : Nat} (h0 : 0 < n) (hn : n ≤ 5) (hN : N ≤ 48) (hH : H ≤ 9999) (kk : ∀ h1, kS3 h h1 → kSRn (kDq v N) (h1 89) n (H + N) f w → Q (kDc v N) h1) : ∀ (m i : Nat) (h1 : kM), i + m = N → kS3 h h1 → kSRn (kDq v i) (h1 89) n (H + i) f w → at_X8_draws_49 G d Q (nI N) (kDc v i) (nI i) h1 := by
  intro m
  induction m with
  | zero =>
    intro i h1 hi q hS
    have hi2 : i = N := by omega
    subst hi2
    exact sg_X8_draws_49 hd ⟨fun _ => kk h1 q hS, fun z => absurd (nI_le (Nat.le_refl _) (by omega)) z⟩
  | succ m ih =>
    intro i h1 hi q hS
    generalize hu : kDq v i = u at hS
    have st : ∀ (y : kM × Int32) (h2 : kM), kDl u = y → kS3 h h2 → kSRn y.1 (h2 89) n (H + i) f w → Cal G (d - 1) m_X8_hour [.ref 88] h2 (fun x5 h6 => at_X8_draws_49 G d Q (nI N) (kDc v i + y.2) (nI (i + 1)) h6) := fun y h2 ey q2 hS2 => by
      refine sp_X8_hour (d := d - 1) (by omega) hS2 (by omega) (fun h3 q3 hS3 => ?_)
      rw [← ey, ← hu] at hS3 ⊢
      exact ih (i + 1) h3 (by omega) (q2.tr q3) hS3
    refine sg_X8_draws_49 hd ⟨fun z => absurd z (ltn (nI_lt (by omega) (by omega))), fun _ h2 e2 => ?_⟩
    have g0 : h1 89 0 = nI n := hS.1.2.2
    have g1 : h1 89 1 = u 0 13 := by rw [hS.2.1.2.2, hS.2.1.2.1]
    have g6 : h1 89 6 = u 0 16 := hS.2.2.2.2.1.symm
    have k2 : h2 89 = upd (h1 89) 6 (h1 89 6 * 1103515245 + 12345) := by rw [e2, kU_eq]
    have hz : kSRn (kZ u) (h2 89) n (H + i) f w := hS.z k2
    have c0 : h2 89 0 = nI n := hz.1.2.2
    have c1 : h2 89 1 = u 0 13 := by rw [k2, pk_un (by decide), g1]
    have ea : kDraw (h1 89 6) = nI (kDn u) := by rw [g6]; exact kDn_n.2
    have la : kDn u < 2 ^ 24 := kDn_n.1
    have ea2 : kDraw (h2 89 6) = nI (kDn (kZ u)) := by
      have e : h2 89 6 = kZ u 0 16 := hz.2.2.2.2.1.symm
      rw [e]
      exact kDn_n.2
    have la2 : kDn (kZ u) < 2 ^ 24 := kDn_n.1
    have hp : kDn u % n < n := Nat.mod_lt _ h0
    have er : kDraw (h1 89 6) - kDraw (h1 89 6) / h2 89 0 * h2 89 0 = nI (kDn u % n) := by
      rw [c0, ea]
      exact pk_rem (by omega) h0 (by omega)
    have er4 : kDraw (h2 89 6) - kDraw (h2 89 6) / 4 * 4 = nI (kDn (kZ u) % 4) := by
      rw [ea2]
      exact pk_rem (d := 4) (by omega) (by decide) (by decide)
    have q2 : kS3 h h2 := q.tr (fun a a1 _ _ => by rw [e2, kU_ne a1])
    have hj : kDn (kZ u) % 4 < 4 := Nat.mod_lt _ (by decide)
    have add0 : kDc v i + 0 = kDc v i := Int32.add_zero _
    rw [er, er4, c1, nI_1]
    refine ⟨by rw [c0]; exact nI_ne0 h0 (by omega), fun hday => ?_, fun hday h7 e7 => ?_⟩
    · have s := st _ h2 (kDl_n (kb_0.mp hday)) q2 hz
      rw [add0] at s
      exact s
    have hday := kb_n0.mp hday
    have k7 : h7 89 = upd (h2 89) 6 (h2 89 6 * 1103515245 + 12345) := by rw [e7, kU_eq]
    have hzz : kSRn (kZ (kZ u)) (h7 89) n (H + i) f w := hz.z k7
    have q7 : kS3 h h7 := q2.tr (fun a a1 _ _ => by rw [e7, kU_ne a1])
    refine ⟨fun h3 => ?_, fun h3 => ?_⟩
    · have h3 : kDn (kZ u) % 4 = 3 := by
        have := (nI_leI (a := 3) (by decide) (by omega)).mp h3
        omega
      have s := st _ h7 (kDl_3 hday h3) q7 hzz
      rw [add0] at s
      exact s
    · have h3 : ¬ kDn (kZ u) % 4 = 3 := fun e => h3 (by rw [e]; exact Int32.le_refl 3)
      obtain ⟨x, x1, x2, x3, x4, x5, x6, x7, x8, x9⟩ := (hzz.2.2.2.2.2.2.2.1 (kDn u % n) hp).xy
      obtain ⟨t, mm, wy, ht, hm, hwy, y1, y2, y3, y4, y5, y6, y7⟩ := hzz.2.2.2.2.2.2.2.2.1 (3 * (kDn u % n) + kDn (kZ u) % 4) (by omega)
      have c71 : h7 89 1 = u 0 13 := by rw [k7, pk_un (by decide), c1]
      rw [ix3, k3d (by omega) (by omega), mIt_3 (by omega), mOf_2 (by omega), ← y7, x7, c71]
      have eq : kMy (kZ (kZ u)) (kDn u % kNs u) (kDn (kZ u) % 4) ↔ (kZ (kZ u) 8 (3 * (kDn u % n) + kDn (kZ u) % 4) = -1 ∧ kDay (u 0 13) ∧ ¬ nI x.2 = 1) := by
        unfold kMy
        rw [hS.ns, kZ_s (v := kZ u) (by decide), kZ_s (v := u) (by decide), x5]
      refine ⟨⟨okI_n (w := 3) (by omega) (by decide), okO_n (w := 2) (by omega) (by decide)⟩, fun hm => ?_, fun hm => ⟨okI_n (w := 3) (by omega) (by decide), fun h16 e16 => ?_⟩⟩
      · have s := st _ h7 (kDl_o hday h3 (fun e => kb_0.mp hm (eq.mp e))) q7 hzz
        rw [add0] at s
        exact s
      · have ed := kDl_y hday h3 (eq.mpr (kb_n0.mp hm))
        rw [hS.ns] at ed
        rw [mLo_n (by omega)] at e16
        have k16 : h16 89 = upd (h7 89) (90 + 4 * (3 * (kDn u % n) + kDn (kZ u) % 4)) (nI (H + i)) := by rw [e16, kU_eq, hzz.2.1.2.2]
        have hlo : kSRn (kLo (kZ (kZ u)) (3 * (kDn u % n) + kDn (kZ u) % 4)) (h16 89) n (H + i) f w := hzz.lo (by omega) kVEq.rf k16
        exact st _ h16 ed (q7.tr (fun a a1 _ _ => by rw [e16, kU_ne a1])) hlo
theorem st_draws (hd : 9 ≤ d) (hR : kRel h) (a1 : Int32) : kStp G d m_X7_draws m_X8_draws [.int a1] h := by
  obtain ⟨n, H, f, w, hS, hH⟩ := hR.n
  obtain ⟨hn, n1, n2⟩ := hS.1
  have n1 : h 1 12 = nI n := n1
  have e13 : h 1 13 = nI H := hS.2.1.2.1
  have g1 : h 89 1 = nI H := hS.2.1.2.2
  by_cases hc : 1 ≤ a1 ∧ a1 ≤ 48
  · obtain ⟨N, hN1, hN, rfl⟩ := iB 1 48 (by decide) hc.1 hc.2 (by decide)
    by_cases hn0 : n = 0
    · subst hn0
      have z1 : h 1 12 = 0 := n1
      refine cg_X7_draws (by omega) ⟨fun _ => ⟨fun _ => ⟨kin7 (n := 3) (by decide), fun h1 e1 => ?_⟩, fun q => absurd z1 q⟩, fun q => absurd hc (kb_0.mp q)⟩
      have x1 : h1 89 0 = 0 := by rw [e1, kErr_ne (by decide)]; exact n2
      exact cg_X8_draws hd ⟨fun _ => ⟨fun _ => ⟨kin7 (n := 3) (by decide), kErrs hR h1 e1⟩, fun q => absurd x1 q⟩, fun q => absurd hc (kb_0.mp q)⟩
    have h0 : 0 < n := by omega
    have z1 : ¬ h 1 12 = 0 := by rw [n1]; exact nI_ne0 h0 (by omega)
    have z2 : ¬ h 89 0 = 0 := by rw [n2]; exact nI_ne0 h0 (by omega)
    by_cases hv : H + N ≤ 9999
    · have hv2 : nI H + nI N ≤ 9999 := by rw [nI_add]; exact nI_le (b := 9999) hv (by decide)
      refine cg_X7_draws (by omega) ⟨fun _ => ⟨fun q => absurd q z1, fun _ => ⟨fun _ => ?_, fun q => absurd (by rw [e13]; exact hv2) q⟩⟩, fun q => absurd hc (kb_0.mp q)⟩
      refine lp_draws (by omega) hS h0 hN hH (fun h1 q1 => ?_) N 0 h (by omega) ⟨fun _ _ _ _ _ _ => rfl, kVEq.rf⟩
      have e189 : h1 89 = h 89 := q1.1 89 (by decide) (by decide) (by decide) (by decide) (by decide)
      refine cg_X8_draws hd ⟨fun _ => ⟨fun q => absurd (by rw [e189] at q; exact q) z2, fun _ => ⟨fun _ => ?_, fun q => absurd (by rw [e189, g1]; exact hv2) q⟩⟩, fun q => absurd hc (kb_0.mp q)⟩
      have hS1 : kSRn (kVw h 1) (h1 89) n H f w := hS.congr2 e189
      refine lp_mdraws (h := h1) (v := kVw h 1) hd h0 hn hN hH (fun h2 q2 hS2 => ⟨rfl, ?_⟩) N 0 h1 (by omega) kS3.rf hS1
      have q3 : ∀ a, a ≠ 1 → a ≠ 4 → a ≠ 9 → a ≠ 14 → a ≠ 17 → a ≠ 89 → a ≠ 95 → a ≠ 96 → h2 a = h a := fun a x1 x2 x3 x4 x5 x6 x7 x8 => by rw [q2 a x6 x7 x8, q1.1 a x1 x2 x3 x4 x5]
      have ev : kVEq (kDq (kVw h 1) N) (kVw h2 1) := q1.2.tr (fun a x1 x2 => q2 (1 + a) (by omega) (by omega) (by omega))
      refine hR.sea (fun a x1 x2 x3 x4 x5 => q3 a (by omega) (by omega) (by omega) (by omega) (by omega) x5 (by unfold kScr at x2; omega) (by unfold kScr at x2; omega)) ?_ ?_ ?_ ?_ ⟨n, H + N, f, w, hS2.eq ev, hv⟩
      · rw [q3 0 (by decide) (by decide) (by decide) (by decide) (by decide) (by decide) (by decide) (by decide)]
      · rw [q3 76 (by decide) (by decide) (by decide) (by decide) (by decide) (by decide) (by decide) (by decide)]
      · rw [q3 88 (by decide) (by decide) (by decide) (by decide) (by decide) (by decide) (by decide) (by decide)]
      · rw [q3 88 (by decide) (by decide) (by decide) (by decide) (by decide) (by decide) (by decide) (by decide)]
    · have hv2 : ¬ nI H + nI N ≤ 9999 := by rw [nI_add]; exact ltn (nI_lt (a := 9999) (by omega) (by omega))
      refine cg_X7_draws (by omega) ⟨fun _ => ⟨fun q => absurd q z1, fun _ => ⟨fun q => absurd (by rw [e13] at q; exact q) hv2, fun _ => ⟨kin7 (n := 3) (by decide), fun h1 e1 => ?_⟩⟩⟩, fun q => absurd hc (kb_0.mp q)⟩
      have o89 : h1 89 = h 89 := by rw [e1, kErr_ne (by decide)]
      exact cg_X8_draws hd ⟨fun _ => ⟨fun q => absurd (by rw [o89] at q; exact q) z2, fun _ => ⟨fun q => absurd (by rw [o89, g1] at q; exact q) hv2, fun _ => ⟨kin7 (n := 3) (by decide), kErrs hR h1 e1⟩⟩⟩, fun q => absurd hc (kb_0.mp q)⟩
  · refine cg_X7_draws (by omega) ⟨fun q => absurd (kb_n0.mp q) hc, fun _ => ⟨kin7 (n := 1) (by decide), fun h1 e1 => ?_⟩⟩
    exact cg_X8_draws hd ⟨fun q => absurd (kb_n0.mp q) hc, fun _ => ⟨kin7 (n := 1) (by decide), kErrs hR h1 e1⟩⟩
end Draws

