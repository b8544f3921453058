/-! forces and the wind: the class -/
section Wind
variable {G : kG} {d : Nat} {Q : Int32 → kM → Prop} {h : kM}
theorem sp_X8_worked (hd : 2 ≤ d) {u : Int32} (hu : u = 0 ∨ u = 1) {b : Nat} (hb : b = if u = 0 then 147 else 272) {len : Int32} {c : Nat → Int32} {x y z : Int32} (hT : kTR u len c (h 89) b) (h0 : 0 < len) (hm : kNmd u (h 95) x y z) (k : ∀ s, Q (kVal c len.toNatClampNeg x y z) (kIn h 96 s)) : Cal G d m_X8_worked [.ref 88, .int u] h Q := by
  obtain ⟨n, hn, e1, e2, e3, e4⟩ := hT
  have hn0 : n ≠ 0 := by
    rintro rfl
    rw [e1] at h0
    exact absurd h0 (by decide)
  rw [e1, nI_clamp (by omega)] at k
  have hb2 : b = 147 ∨ b = 272 := by
    rcases hu with rfl | rfl
    · exact Or.inl hb
    · exact Or.inr hb
  refine cg_X8_worked hd ?_
  have h1 := lp_worked (G := G) hd (uu := u) hb2 hn e2 (e3.resolve_left hn0) e4 hm k n 0 0 (h 96) (by omega) rfl (fun q hq => absurd hq (Nat.not_lt_zero q))
  rw [kIn_self] at h1
  have hbe : (147 : Int32) + 125 * u = nI b := by
    rcases hu with rfl | rfl
    · rw [hb]; rfl
    · rw [hb]; rfl
  rw [hbe]
  exact h1
/-- a Text as a method may use it; what it gives -/
def kTxtOk (h : kM) (t : Nat) : Prop := ∃ n, n ≤ 60 ∧ h t 2 = nI n ∧ (kHt (h (t + 1)) n = some 1 ∨ n = 0)
def kTv (h : kM) (t : Nat) (x y z : Int32) : Int32 := kVal (h (t + 1)) (h t 2).toNatClampNeg x y z
theorem sp_X6_value (hd : 2 ≤ d) {t : Nat} (kt : kTxt t) {x y z : Int32} (ht : kTxtOk h t) (k : ∀ s h1, h1 = kIn h (t + 2) s → Q (kTv h t x y z) h1) : Cal G d m_X6_value [.ref t, .int x, .int y, .int z] h Q := by
  obtain ⟨n, hn, e1, e2⟩ := ht
  refine sp1_X6_value hd kt hn e1 e2 (fun s => ?_)
  have h1 := k s _ rfl
  unfold kTv at h1
  rw [e1, nI_clamp (by omega)] at h1
  exact h1
/-- a force, by kind, number, way, hours; the text of the TOLD ones -/
def kForce (tl : Int32) (tc : Nat → Int32) (t m w a : Int32) : Int32 :=
  if t = 1 then -(if a < 3 then m else 0) else if t = 2 then (if a < 6 then m / 2 else 0) else if t = 3 then 0 else if t = 4 then (if a = 0 then -2 * (if a < 3 then m else 0) else -(if a < 3 then m else 0)) else if t = 5 then (if a / 2 < 6 then m / 2 else 0) else if t = 6 then (if 0 < tl then kHeld (kVal tc tl.toNatClampNeg a w m) (-20) 20 else if a < 3 then m else 0) else (if a < 3 then m else 0)
def kFo (v : kM) (k : Nat) (a : Int32) : Int32 := kForce (v 11 2) (v 12) (v 5 k) (v 6 k) (v 7 k) a
/-- only the stacks of a sea's texts differ -/
def kS1 (b : Nat) (h h' : kM) : Prop := ∀ a, a ≠ b + 13 → a ≠ b + 16 → h' a = h a
theorem kS1.rf {b : Nat} {h : kM} : kS1 b h h := fun _ _ _ => rfl
theorem kS1.tr {b : Nat} {h h1 h2 : kM} (e1 : kS1 b h h1) (e2 : kS1 b h1 h2) : kS1 b h h2 := fun a x y => (e2 a x y).trans (e1 a x y)
theorem kS1.in {b : Nat} {h : kM} {s : Nat → Int32} : kS1 b h (kIn h (b + 13) s) := fun a x _ => kIn_ne x
theorem kS1.in2 {b : Nat} {h : kM} {s : Nat → Int32} : kS1 b h (kIn h (b + 16) s) := fun a _ x => kIn_ne x
theorem kS1.vw {b : Nat} {h h' : kM} (e : kS1 b h h') {a : Nat} (h1 : a ≠ 13) (h2 : a ≠ 16) : kVw h' b a = kVw h b a := e (b + a) (by omega) (by omega)
theorem kS1.txt {b : Nat} {h h' : kM} (e : kS1 b h h') {o : Nat} (ho : o = 11 ∨ o = 14) (ht : kTxtOk h (b + o)) : kTxtOk h' (b + o) := by
  unfold kTxtOk at *
  rw [e (b + o) (by omega) (by omega), e (b + o + 1) (by omega) (by omega)]
  exact ht
theorem sg_X2_force_0 {G : kG} {d : Nat} {Q : Int32 → kM → Prop} {b : Nat} {a1 : Int32} {a2 : Int32} {h : kM} (hd : 4 ≤ d) (k_b : kSea b) (H :
    (vp_in a1 15) ∧
    (((3 : Int32) ≤ a2 →
      (vp_in a1 15) ∧
      (((h (b + 5) (a1).toNatClampNeg) = (1 : Int32) →
        Q (-(0 : Int32)) h
      ) ∧ (¬ (h (b + 5) (a1).toNatClampNeg) = (1 : Int32) →
      (((h (b + 5) (a1).toNatClampNeg) = (2 : Int32) →
        Q ((if a2 < 6 then (h (b + 6) (a1).toNatClampNeg) / 2 else 0)) h
      ) ∧ (¬ (h (b + 5) (a1).toNatClampNeg) = (2 : Int32) →
      (((h (b + 5) (a1).toNatClampNeg) = (3 : Int32) →
        Q (0 : Int32) h
      ) ∧ (¬ (h (b + 5) (a1).toNatClampNeg) = (3 : Int32) →
      (((h (b + 5) (a1).toNatClampNeg) = (4 : Int32) →
        ((¬ a2 = 0 →
          Q (-(0 : Int32)) h
        ) ∧ (a2 = 0 →
          Q ((-2 : Int32) * (0 : Int32)) h
        ))
      ) ∧ (¬ (h (b + 5) (a1).toNatClampNeg) = (4 : Int32) →
      (((h (b + 5) (a1).toNatClampNeg) = (5 : Int32) →
        Q ((if (a2 / (2 : Int32)) < 6 then (h (b + 6) (a1).toNatClampNeg) / 2 else 0)) h
      ) ∧ (¬ (h (b + 5) (a1).toNatClampNeg) = (5 : Int32) →
      (((h (b + 5) (a1).toNatClampNeg) = (6 : Int32) →
        (((kb (0 < h (b + 11) 2)) = 0 →
          Q (0 : Int32) h
        ) ∧ (¬ ((kb (0 < h (b + 11) 2)) = 0) →
          (vp_in a1 15) ∧
          (kTxtOk h (b + 11)) ∧
          ∀ (s14 : Nat → Int32) (h13 : kM), h13 = kIn h ((b + 11) + 2) s14 →
          Q (kHeld (kTv h (b + 11) a2 (h (b + 7) (a1).toNatClampNeg) (h (b + 6) (a1).toNatClampNeg)) (-20 : Int32) (20 : Int32)) h13
        ))
      ) ∧ (¬ (h (b + 5) (a1).toNatClampNeg) = (6 : Int32) →
        Q (0 : Int32) h
      ))))))))))))
    ) ∧ (¬ ((3 : Int32) ≤ a2) →
      (vp_in a1 15) ∧
      (((h (b + 5) (a1).toNatClampNeg) = (1 : Int32) →
        Q (-(h (b + 6) (a1).toNatClampNeg)) h
      ) ∧ (¬ (h (b + 5) (a1).toNatClampNeg) = (1 : Int32) →
      (((h (b + 5) (a1).toNatClampNeg) = (2 : Int32) →
        Q ((if a2 < 6 then (h (b + 6) (a1).toNatClampNeg) / 2 else 0)) h
      ) ∧ (¬ (h (b + 5) (a1).toNatClampNeg) = (2 : Int32) →
      (((h (b + 5) (a1).toNatClampNeg) = (3 : Int32) →
        Q (0 : Int32) h
      ) ∧ (¬ (h (b + 5) (a1).toNatClampNeg) = (3 : Int32) →
      (((h (b + 5) (a1).toNatClampNeg) = (4 : Int32) →
        ((¬ a2 = 0 →
          Q (-(h (b + 6) (a1).toNatClampNeg)) h
        ) ∧ (a2 = 0 →
          Q ((-2 : Int32) * (h (b + 6) (a1).toNatClampNeg)) h
        ))
      ) ∧ (¬ (h (b + 5) (a1).toNatClampNeg) = (4 : Int32) →
      (((h (b + 5) (a1).toNatClampNeg) = (5 : Int32) →
        Q ((if (a2 / (2 : Int32)) < 6 then (h (b + 6) (a1).toNatClampNeg) / 2 else 0)) h
      ) ∧ (¬ (h (b + 5) (a1).toNatClampNeg) = (5 : Int32) →
      (((h (b + 5) (a1).toNatClampNeg) = (6 : Int32) →
        (((kb (0 < h (b + 11) 2)) = 0 →
          Q (h (b + 6) (a1).toNatClampNeg) h
        ) ∧ (¬ ((kb (0 < h (b + 11) 2)) = 0) →
          (vp_in a1 15) ∧
          (kTxtOk h (b + 11)) ∧
          ∀ (s27 : Nat → Int32) (h26 : kM), h26 = kIn h ((b + 11) + 2) s27 →
          Q (kHeld (kTv h (b + 11) a2 (h (b + 7) (a1).toNatClampNeg) (h (b + 6) (a1).toNatClampNeg)) (-20 : Int32) (20 : Int32)) h26
        ))
      ) ∧ (¬ (h (b + 5) (a1).toNatClampNeg) = (6 : Int32) →
        Q (h (b + 6) (a1).toNatClampNeg) h
      ))))))))))))
    ))) : Wp G d m_X2_force (kEo G d m_X2_force Q) 0 [.ref b, .int a1, .int a2, .null, .null] [] h := by
  refine wp_aload_n 1 dX2_force_0 rfl rfl ?_
  refine wp_getR 6 (b + 6) 4 dX2_force_1 rfl fl_X2_27 (kSea_0 k_b) rfl rfl rfl rfl ?_
  refine wp_iload_n 5 dX2_force_4 rfl rfl ?_
  have c1 := H.1; replace H := H.2
  refine wp_iald 6 dX2_force_5 rfl (kSea_6 k_b) c1 ?_
  refine wp_istore_n 7 dX2_force_6 rfl (Nat.le_of_ble_eq_true rfl) rfl ?_
  refine wp_iload_n 8 dX2_force_7 rfl rfl ?_
  refine wp_iconst (3 : Int32) 9 dX2_force_8 kiconst_3 rfl ?_
  refine wp_icmp_ge 16 12 dX2_force_9 rfl rfl ⟨fun c2 => ?_, fun c2 => ?_⟩
  · replace H := H.1 c2
    refine wp_iconst (0 : Int32) 17 dX2_force_16 kiconst_0 rfl ?_
    refine wp_istore 19 dX2_force_17 rfl (Nat.le_of_ble_eq_true rfl) rfl ?_
    refine wp_aload_n 20 dX2_force_19 rfl rfl ?_
    refine wp_getR 5 (b + 5) 23 dX2_force_20 rfl fl_X2_24 (kSea_0 k_b) rfl rfl rfl rfl ?_
    refine wp_iload_n 24 dX2_force_23 rfl rfl ?_
    have c3 := H.1; replace H := H.2
    refine wp_iald 25 dX2_force_24 rfl (kSea_5 k_b) c3 ?_
    refine wp_table 138 [((1 : Int32), 64), ((2 : Int32), 68), ((3 : Int32), 74), ((4 : Int32), 76), ((5 : Int32), 92), ((6 : Int32), 100)] dX2_force_25 rfl (by decide) ?_
    refine ⟨fun c4 => ?_, fun c4 => ?_⟩
    · replace H := H.1 c4
      refine wp_iload 66 dX2_force_64 rfl rfl ?_
      refine wp_ineg 67 dX2_force_66 rfl ?_
      exact wp_reti dX2_force_67 rfl H
    · replace H := H.2 c4
      refine ⟨fun c5 => ?_, fun c5 => ?_⟩
      · replace H := H.1 c5
        refine wp_iload_n 69 dX2_force_68 rfl rfl ?_
        refine wp_iload_n 70 dX2_force_69 rfl rfl ?_
        refine wp_cS (d - 1) 2 [.int (h (b + 6) (a1).toNatClampNeg), .int a2] [] 73 dX2_force_70 rfl (lk_X2_127 rfl) (by omega) rfl rfl (Nat.le_of_ble_eq_true rfl) (sp_X2_slowForce (by omega)  ?_)
        exact wp_reti dX2_force_73 rfl H
      · replace H := H.2 c5
        refine ⟨fun c6 => ?_, fun c6 => ?_⟩
        · replace H := H.1 c6
          refine wp_iconst (0 : Int32) 75 dX2_force_74 kiconst_0 rfl ?_
          exact wp_reti dX2_force_75 rfl H
        · replace H := H.2 c6
          refine ⟨fun c8 => ?_, fun c8 => ?_⟩
          · replace H := H.1 c8
            refine wp_iload_n 77 dX2_force_76 rfl rfl ?_
            refine wp_if_ne 88 80 dX2_force_77 rfl rfl ⟨fun c7 => ?_, fun c7 => ?_⟩
            · replace H := H.1 c7
              refine wp_iload 90 dX2_force_88 rfl rfl ?_
              refine wp_ineg 91 dX2_force_90 rfl ?_
              exact wp_reti dX2_force_91 rfl H
            · replace H := H.2 c7
              refine wp_bipush (-2 : Int32) 82 dX2_force_80 kbipush_m2 rfl ?_
              refine wp_iload 84 dX2_force_82 rfl rfl ?_
              refine wp_imul 85 dX2_force_84 rfl ?_
              refine wp_goto 91 dX2_force_85 rfl ?_
              exact wp_reti dX2_force_91 rfl H
          · replace H := H.2 c8
            refine ⟨fun c9 => ?_, fun c9 => ?_⟩
            · replace H := H.1 c9
              refine wp_iload_n 93 dX2_force_92 rfl rfl ?_
              refine wp_iload_n 94 dX2_force_93 rfl rfl ?_
              refine wp_iconst (2 : Int32) 95 dX2_force_94 kiconst_2 rfl ?_
              refine wp_idiv 96 dX2_force_95 (by decide) rfl ?_
              refine wp_cS (d - 1) 2 [.int (h (b + 6) (a1).toNatClampNeg), .int (a2 / (2 : Int32))] [] 99 dX2_force_96 rfl (lk_X2_127 rfl) (by omega) rfl rfl (Nat.le_of_ble_eq_true rfl) (sp_X2_slowForce (by omega)  ?_)
              exact wp_reti dX2_force_99 rfl H
            · replace H := H.2 c9
              refine ⟨fun c15 => ?_, fun c15 => ?_⟩
              · replace H := H.1 c15
                refine wp_aload_n 101 dX2_force_100 rfl rfl ?_
                refine wp_getR 11 (b + 11) 104 dX2_force_101 rfl fl_X2_45 (kSea_0 k_b) rfl rfl rfl rfl ?_
                refine wp_cV (d - 1) 0 [] [] 107 dX2_force_104 rfl (lk_X2_116 rfl) (by omega) (kSea_11 k_b) rfl rfl rfl (Nat.le_of_ble_eq_true rfl) (sp_X6_isThere (by omega) (kSea_txt11 k_b) ?_)
                refine wp_if_eq 135 110 dX2_force_107 rfl rfl ⟨fun c10 => ?_, fun c10 => ?_⟩
                · replace H := H.1 c10
                  refine wp_iload 137 dX2_force_135 rfl rfl ?_
                  exact wp_reti dX2_force_137 rfl H
                · replace H := H.2 c10
                  refine wp_aload_n 111 dX2_force_110 rfl rfl ?_
                  refine wp_getR 11 (b + 11) 114 dX2_force_111 rfl fl_X2_45 (kSea_0 k_b) rfl rfl rfl rfl ?_
                  refine wp_iload_n 115 dX2_force_114 rfl rfl ?_
                  refine wp_aload_n 116 dX2_force_115 rfl rfl ?_
                  refine wp_getR 7 (b + 7) 119 dX2_force_116 rfl fl_X2_30 (kSea_0 k_b) rfl rfl rfl rfl ?_
                  refine wp_iload_n 120 dX2_force_119 rfl rfl ?_
                  have c11 := H.1; replace H := H.2
                  refine wp_iald 121 dX2_force_120 rfl (kSea_7 k_b) c11 ?_
                  refine wp_iload_n 122 dX2_force_121 rfl rfl ?_
                  have c12 := H.1; replace H := H.2
                  refine wp_cV (d - 1) 3 [.int a2, .int (h (b + 7) (a1).toNatClampNeg), .int (h (b + 6) (a1).toNatClampNeg)] [] 125 dX2_force_122 rfl (lk_X2_120 rfl) (by omega) (kSea_11 k_b) rfl rfl rfl (Nat.le_of_ble_eq_true rfl) (sp_X6_value (by omega) (kSea_txt11 k_b) c12 (fun s14 h13 eh13 => ?_))
                  replace H := H s14 h13 eh13
                  refine wp_bipush (-20 : Int32) 127 dX2_force_125 kbipush_m20 rfl ?_
                  refine wp_bipush (20 : Int32) 129 dX2_force_127 kbipush_20 rfl ?_
                  refine wp_cN (d - 1) 3 [.int (kTv h (b + 11) a2 (h (b + 7) (a1).toNatClampNeg) (h (b + 6) (a1).toNatClampNeg)), .int (-20 : Int32), .int (20 : Int32)] [] 132 dX2_force_129 rfl (lk_X2_124 rfl) (by omega) rfl rfl (Nat.le_of_ble_eq_true rfl) (sp_X7_held (by omega)  ?_)
                  refine wp_goto 137 dX2_force_132 rfl ?_
                  exact wp_reti dX2_force_137 rfl H
              · replace H := H.2 c15
                show Wp _ _ _ _ _ _ _ _
                refine wp_iload 140 dX2_force_138 rfl rfl ?_
                exact wp_reti dX2_force_140 rfl H
  · replace H := H.2 c2
    refine wp_iload_n 13 dX2_force_12 rfl rfl ?_
    refine wp_goto 17 dX2_force_13 rfl ?_
    refine wp_istore 19 dX2_force_17 rfl (Nat.le_of_ble_eq_true rfl) rfl ?_
    refine wp_aload_n 20 dX2_force_19 rfl rfl ?_
    refine wp_getR 5 (b + 5) 23 dX2_force_20 rfl fl_X2_24 (kSea_0 k_b) rfl rfl rfl rfl ?_
    refine wp_iload_n 24 dX2_force_23 rfl rfl ?_
    have c16 := H.1; replace H := H.2
    refine wp_iald 25 dX2_force_24 rfl (kSea_5 k_b) c16 ?_
    refine wp_table 138 [((1 : Int32), 64), ((2 : Int32), 68), ((3 : Int32), 74), ((4 : Int32), 76), ((5 : Int32), 92), ((6 : Int32), 100)] dX2_force_25 rfl (by decide) ?_
    refine ⟨fun c17 => ?_, fun c17 => ?_⟩
    · replace H := H.1 c17
      refine wp_iload 66 dX2_force_64 rfl rfl ?_
      refine wp_ineg 67 dX2_force_66 rfl ?_
      exact wp_reti dX2_force_67 rfl H
    · replace H := H.2 c17
      refine ⟨fun c18 => ?_, fun c18 => ?_⟩
      · replace H := H.1 c18
        refine wp_iload_n 69 dX2_force_68 rfl rfl ?_
        refine wp_iload_n 70 dX2_force_69 rfl rfl ?_
        refine wp_cS (d - 1) 2 [.int (h (b + 6) (a1).toNatClampNeg), .int a2] [] 73 dX2_force_70 rfl (lk_X2_127 rfl) (by omega) rfl rfl (Nat.le_of_ble_eq_true rfl) (sp_X2_slowForce (by omega)  ?_)
        exact wp_reti dX2_force_73 rfl H
      · replace H := H.2 c18
        refine ⟨fun c19 => ?_, fun c19 => ?_⟩
        · replace H := H.1 c19
          refine wp_iconst (0 : Int32) 75 dX2_force_74 kiconst_0 rfl ?_
          exact wp_reti dX2_force_75 rfl H
        · replace H := H.2 c19
          refine ⟨fun c21 => ?_, fun c21 => ?_⟩
          · replace H := H.1 c21
            refine wp_iload_n 77 dX2_force_76 rfl rfl ?_
            refine wp_if_ne 88 80 dX2_force_77 rfl rfl ⟨fun c20 => ?_, fun c20 => ?_⟩
            · replace H := H.1 c20
              refine wp_iload 90 dX2_force_88 rfl rfl ?_
              refine wp_ineg 91 dX2_force_90 rfl ?_
              exact wp_reti dX2_force_91 rfl H
            · replace H := H.2 c20
              refine wp_bipush (-2 : Int32) 82 dX2_force_80 kbipush_m2 rfl ?_
              refine wp_iload 84 dX2_force_82 rfl rfl ?_
              refine wp_imul 85 dX2_force_84 rfl ?_
              refine wp_goto 91 dX2_force_85 rfl ?_
              exact wp_reti dX2_force_91 rfl H
          · replace H := H.2 c21
            refine ⟨fun c22 => ?_, fun c22 => ?_⟩
            · replace H := H.1 c22
              refine wp_iload_n 93 dX2_force_92 rfl rfl ?_
              refine wp_iload_n 94 dX2_force_93 rfl rfl ?_
              refine wp_iconst (2 : Int32) 95 dX2_force_94 kiconst_2 rfl ?_
              refine wp_idiv 96 dX2_force_95 (by decide) rfl ?_
              refine wp_cS (d - 1) 2 [.int (h (b + 6) (a1).toNatClampNeg), .int (a2 / (2 : Int32))] [] 99 dX2_force_96 rfl (lk_X2_127 rfl) (by omega) rfl rfl (Nat.le_of_ble_eq_true rfl) (sp_X2_slowForce (by omega)  ?_)
              exact wp_reti dX2_force_99 rfl H
            · replace H := H.2 c22
              refine ⟨fun c28 => ?_, fun c28 => ?_⟩
              · replace H := H.1 c28
                refine wp_aload_n 101 dX2_force_100 rfl rfl ?_
                refine wp_getR 11 (b + 11) 104 dX2_force_101 rfl fl_X2_45 (kSea_0 k_b) rfl rfl rfl rfl ?_
                refine wp_cV (d - 1) 0 [] [] 107 dX2_force_104 rfl (lk_X2_116 rfl) (by omega) (kSea_11 k_b) rfl rfl rfl (Nat.le_of_ble_eq_true rfl) (sp_X6_isThere (by omega) (kSea_txt11 k_b) ?_)
                refine wp_if_eq 135 110 dX2_force_107 rfl rfl ⟨fun c23 => ?_, fun c23 => ?_⟩
                · replace H := H.1 c23
                  refine wp_iload 137 dX2_force_135 rfl rfl ?_
                  exact wp_reti dX2_force_137 rfl H
                · replace H := H.2 c23
                  refine wp_aload_n 111 dX2_force_110 rfl rfl ?_
                  refine wp_getR 11 (b + 11) 114 dX2_force_111 rfl fl_X2_45 (kSea_0 k_b) rfl rfl rfl rfl ?_
                  refine wp_iload_n 115 dX2_force_114 rfl rfl ?_
                  refine wp_aload_n 116 dX2_force_115 rfl rfl ?_
                  refine wp_getR 7 (b + 7) 119 dX2_force_116 rfl fl_X2_30 (kSea_0 k_b) rfl rfl rfl rfl ?_
                  refine wp_iload_n 120 dX2_force_119 rfl rfl ?_
                  have c24 := H.1; replace H := H.2
                  refine wp_iald 121 dX2_force_120 rfl (kSea_7 k_b) c24 ?_
                  refine wp_iload_n 122 dX2_force_121 rfl rfl ?_
                  have c25 := H.1; replace H := H.2
                  refine wp_cV (d - 1) 3 [.int a2, .int (h (b + 7) (a1).toNatClampNeg), .int (h (b + 6) (a1).toNatClampNeg)] [] 125 dX2_force_122 rfl (lk_X2_120 rfl) (by omega) (kSea_11 k_b) rfl rfl rfl (Nat.le_of_ble_eq_true rfl) (sp_X6_value (by omega) (kSea_txt11 k_b) c25 (fun s27 h26 eh26 => ?_))
                  replace H := H s27 h26 eh26
                  refine wp_bipush (-20 : Int32) 127 dX2_force_125 kbipush_m20 rfl ?_
                  refine wp_bipush (20 : Int32) 129 dX2_force_127 kbipush_20 rfl ?_
                  refine wp_cN (d - 1) 3 [.int (kTv h (b + 11) a2 (h (b + 7) (a1).toNatClampNeg) (h (b + 6) (a1).toNatClampNeg)), .int (-20 : Int32), .int (20 : Int32)] [] 132 dX2_force_129 rfl (lk_X2_124 rfl) (by omega) rfl rfl (Nat.le_of_ble_eq_true rfl) (sp_X7_held (by omega)  ?_)
                  refine wp_goto 137 dX2_force_132 rfl ?_
                  exact wp_reti dX2_force_137 rfl H
              · replace H := H.2 c28
                show Wp _ _ _ _ _ _ _ _
                refine wp_iload 140 dX2_force_138 rfl rfl ?_
                exact wp_reti dX2_force_140 rfl H

theorem cg_X2_force {G : kG} {d : Nat} {Q : Int32 → kM → Prop} {b : Nat} {a1 : Int32} {a2 : Int32} {h : kM} (hd : 4 ≤ d) (k_b : kSea b) (H :
    (vp_in a1 15) ∧
    (((3 : Int32) ≤ a2 →
      (vp_in a1 15) ∧
      (((h (b + 5) (a1).toNatClampNeg) = (1 : Int32) →
        Q (-(0 : Int32)) h
      ) ∧ (¬ (h (b + 5) (a1).toNatClampNeg) = (1 : Int32) →
      (((h (b + 5) (a1).toNatClampNeg) = (2 : Int32) →
        Q ((if a2 < 6 then (h (b + 6) (a1).toNatClampNeg) / 2 else 0)) h
      ) ∧ (¬ (h (b + 5) (a1).toNatClampNeg) = (2 : Int32) →
      (((h (b + 5) (a1).toNatClampNeg) = (3 : Int32) →
        Q (0 : Int32) h
      ) ∧ (¬ (h (b + 5) (a1).toNatClampNeg) = (3 : Int32) →
      (((h (b + 5) (a1).toNatClampNeg) = (4 : Int32) →
        ((¬ a2 = 0 →
          Q (-(0 : Int32)) h
        ) ∧ (a2 = 0 →
          Q ((-2 : Int32) * (0 : Int32)) h
        ))
      ) ∧ (¬ (h (b + 5) (a1).toNatClampNeg) = (4 : Int32) →
      (((h (b + 5) (a1).toNatClampNeg) = (5 : Int32) →
        Q ((if (a2 / (2 : Int32)) < 6 then (h (b + 6) (a1).toNatClampNeg) / 2 else 0)) h
      ) ∧ (¬ (h (b + 5) (a1).toNatClampNeg) = (5 : Int32) →
      (((h (b + 5) (a1).toNatClampNeg) = (6 : Int32) →
        (((kb (0 < h (b + 11) 2)) = 0 →
          Q (0 : Int32) h
        ) ∧ (¬ ((kb (0 < h (b + 11) 2)) = 0) →
          (vp_in a1 15) ∧
          (kTxtOk h (b + 11)) ∧
          ∀ (s14 : Nat → Int32) (h13 : kM), h13 = kIn h ((b + 11) + 2) s14 →
          Q (kHeld (kTv h (b + 11) a2 (h (b + 7) (a1).toNatClampNeg) (h (b + 6) (a1).toNatClampNeg)) (-20 : Int32) (20 : Int32)) h13
        ))
      ) ∧ (¬ (h (b + 5) (a1).toNatClampNeg) = (6 : Int32) →
        Q (0 : Int32) h
      ))))))))))))
    ) ∧ (¬ ((3 : Int32) ≤ a2) →
      (vp_in a1 15) ∧
      (((h (b + 5) (a1).toNatClampNeg) = (1 : Int32) →
        Q (-(h (b + 6) (a1).toNatClampNeg)) h
      ) ∧ (¬ (h (b + 5) (a1).toNatClampNeg) = (1 : Int32) →
      (((h (b + 5) (a1).toNatClampNeg) = (2 : Int32) →
        Q ((if a2 < 6 then (h (b + 6) (a1).toNatClampNeg) / 2 else 0)) h
      ) ∧ (¬ (h (b + 5) (a1).toNatClampNeg) = (2 : Int32) →
      (((h (b + 5) (a1).toNatClampNeg) = (3 : Int32) →
        Q (0 : Int32) h
      ) ∧ (¬ (h (b + 5) (a1).toNatClampNeg) = (3 : Int32) →
      (((h (b + 5) (a1).toNatClampNeg) = (4 : Int32) →
        ((¬ a2 = 0 →
          Q (-(h (b + 6) (a1).toNatClampNeg)) h
        ) ∧ (a2 = 0 →
          Q ((-2 : Int32) * (h (b + 6) (a1).toNatClampNeg)) h
        ))
      ) ∧ (¬ (h (b + 5) (a1).toNatClampNeg) = (4 : Int32) →
      (((h (b + 5) (a1).toNatClampNeg) = (5 : Int32) →
        Q ((if (a2 / (2 : Int32)) < 6 then (h (b + 6) (a1).toNatClampNeg) / 2 else 0)) h
      ) ∧ (¬ (h (b + 5) (a1).toNatClampNeg) = (5 : Int32) →
      (((h (b + 5) (a1).toNatClampNeg) = (6 : Int32) →
        (((kb (0 < h (b + 11) 2)) = 0 →
          Q (h (b + 6) (a1).toNatClampNeg) h
        ) ∧ (¬ ((kb (0 < h (b + 11) 2)) = 0) →
          (vp_in a1 15) ∧
          (kTxtOk h (b + 11)) ∧
          ∀ (s27 : Nat → Int32) (h26 : kM), h26 = kIn h ((b + 11) + 2) s27 →
          Q (kHeld (kTv h (b + 11) a2 (h (b + 7) (a1).toNatClampNeg) (h (b + 6) (a1).toNatClampNeg)) (-20 : Int32) (20 : Int32)) h26
        ))
      ) ∧ (¬ (h (b + 5) (a1).toNatClampNeg) = (6 : Int32) →
        Q (h (b + 6) (a1).toNatClampNeg) h
      ))))))))))))
    ))) : Cal G d m_X2_force [.ref b, .int a1, .int a2] h Q :=
  Cal.of [.ref b, .int a1, .int a2, .null, .null] (by decide +kernel) (Nat.le_of_ble_eq_true rfl) rfl (sg_X2_force_0 hd k_b H)

theorem sp_X2_force (hd : 4 ≤ d) {b : Nat} {a x : Int32} (hb : kSea b) (ho : vp_in a 15 ∧ kTxtOk h (b + 11)) (k : ∀ h1, kS1 b h h1 → Q (kFo (kVw h b) a.toNatClampNeg x) h1) : Cal G d m_X2_force [.ref b, .int a, .int x] h Q := by
  obtain ⟨ha, ht⟩ := ho
  have k0 := k h kS1.rf
  have ks : ∀ s, Q (kFo (kVw h b) a.toNatClampNeg x) (kIn h (b + 13) s) := fun s => k _ kS1.in
  unfold kFo kForce at k0 ks
  have e5 : kVw h b 5 a.toNatClampNeg = h (b + 5) a.toNatClampNeg := rfl
  have e6 : kVw h b 6 a.toNatClampNeg = h (b + 6) a.toNatClampNeg := rfl
  have e7 : kVw h b 7 a.toNatClampNeg = h (b + 7) a.toNatClampNeg := rfl
  have e11 : kVw h b 11 2 = h (b + 11) 2 := rfl
  rw [e5, e6, e7, e11] at k0 ks
  refine cg_X2_force hd hb ⟨ha, fun c => ⟨ha, ?_⟩, fun c => ⟨ha, ?_⟩⟩
  · have c' := len c
    simp only [if_neg c'] at k0 ks
    refine ⟨fun e => by rw [if_pos e] at k0; exact k0, fun e1 => ?_⟩
    rw [if_neg e1] at k0
    simp only [if_neg e1] at ks
    refine ⟨fun e => by rw [if_pos e] at k0; exact k0, fun e2 => ?_⟩
    rw [if_neg e2] at k0
    simp only [if_neg e2] at ks
    refine ⟨fun e => by rw [if_pos e] at k0; exact k0, fun e3 => ?_⟩
    rw [if_neg e3] at k0
    simp only [if_neg e3] at ks
    refine ⟨fun e => ?_, fun e4 => ?_⟩
    · rw [if_pos e] at k0
      exact ⟨fun q => by rw [if_neg q] at k0; exact k0, fun q => by rw [if_pos q] at k0; exact k0⟩
    rw [if_neg e4] at k0
    simp only [if_neg e4] at ks
    refine ⟨fun e => by rw [if_pos e] at k0; exact k0, fun e5 => ?_⟩
    rw [if_neg e5] at k0
    simp only [if_neg e5] at ks
    refine ⟨fun e => ?_, fun e6 => by rw [if_neg e6] at k0; exact k0⟩
    rw [if_pos e] at k0
    simp only [if_pos e] at ks
    refine ⟨fun q => by rw [if_neg (kb_0.mp q)] at k0; exact k0, fun q => ⟨ha, ht, fun s h13 e13 => ?_⟩⟩
    have q2 := kb_n0.mp q
    have k1 := ks s
    rw [if_pos q2] at k1
    rw [e13]
    exact k1
  · have c' := nle c
    simp only [if_pos c'] at k0 ks
    refine ⟨fun e => by rw [if_pos e] at k0; exact k0, fun e1 => ?_⟩
    rw [if_neg e1] at k0
    simp only [if_neg e1] at ks
    refine ⟨fun e => by rw [if_pos e] at k0; exact k0, fun e2 => ?_⟩
    rw [if_neg e2] at k0
    simp only [if_neg e2] at ks
    refine ⟨fun e => by rw [if_pos e] at k0; exact k0, fun e3 => ?_⟩
    rw [if_neg e3] at k0
    simp only [if_neg e3] at ks
    refine ⟨fun e => ?_, fun e4 => ?_⟩
    · rw [if_pos e] at k0
      exact ⟨fun q => by rw [if_neg q] at k0; exact k0, fun q => by rw [if_pos q] at k0; exact k0⟩
    rw [if_neg e4] at k0
    simp only [if_neg e4] at ks
    refine ⟨fun e => by rw [if_pos e] at k0; exact k0, fun e5 => ?_⟩
    rw [if_neg e5] at k0
    simp only [if_neg e5] at ks
    refine ⟨fun e => ?_, fun e6 => by rw [if_neg e6] at k0; exact k0⟩
    rw [if_pos e] at k0
    simp only [if_pos e] at ks
    refine ⟨fun q => by rw [if_neg (kb_0.mp q)] at k0; exact k0, fun q => ⟨ha, ht, fun s h13 e13 => ?_⟩⟩
    have q2 := kb_n0.mp q
    have k1 := ks s
    rw [if_pos q2] at k1
    rw [e13]
    exact k1
/-- a sum of terms -/
def kSum (f : Nat → Int32) (s : Int32) : Nat → Int32
  | 0 => s
  | n + 1 => kSum f s n + f n
theorem kSum_congr {f g : Nat → Int32} {s : Int32} : ∀ (n : Nat), (∀ i, i < n → f i = g i) → kSum f s n = kSum g s n
  | 0, _ => rfl
  | n + 1, h => by
    show kSum f s n + f n = kSum g s n + g n
    rw [kSum_congr n (fun i hi => h i (by omega)), h n (by omega)]
/-- a sea as the wind may be asked of it -/
def kSeaOk (v : kM) : Prop := (∃ n, n ≤ 5 ∧ v 0 12 = nI n) ∧ kTxtOk v 11 ∧ kTxtOk v 14
def kNs (v : kM) : Nat := (v 0 12).toNatClampNeg
def kWt (v : kM) (what when' : Int32) (k : Nat) : Int32 := if v 8 k = -1 then 0 else kShare (v 7 k) what * kFo v k (when' - v 8 k)
def kWn (v : kM) (what when' : Int32) : Int32 := kSum (kWt v what when') (v 2 what.toNatClampNeg) (3 * kNs v)
theorem kFo_S1 {b : Nat} {h h' : kM} (e : kS1 b h h') (k : Nat) (a : Int32) : kFo (kVw h' b) k a = kFo (kVw h b) k a := by
  unfold kFo
  rw [e.vw (a := 11) (by decide) (by decide), e.vw (a := 12) (by decide) (by decide), e.vw (a := 5) (by decide) (by decide), e.vw (a := 6) (by decide) (by decide), e.vw (a := 7) (by decide) (by decide)]
theorem kTxtOk_v {h : kM} {b o : Nat} : kTxtOk (kVw h b) o ↔ kTxtOk h (b + o) := Iff.rfl
def at_X2_windAt_10 (G : kG) (d : Nat) (Q : Int32 → kM → Prop) (b : Nat) (v1 : Int32) (v2 : Int32) (v3 : Int32) (v4 : Int32) (h : kM) : Prop := Wp G d m_X2_windAt (kEo G d m_X2_windAt Q) 10 [.ref b, .int v1, .int v2, .int v3, .int v4, .null] [] h
theorem sg_X2_windAt_0 {G : kG} {d : Nat} {Q : Int32 → kM → Prop} {b : Nat} {a1 : Int32} {a2 : Int32} {h : kM} (hd : 5 ≤ d) (k_b : kSea b) (H :
    (vp_in a1 2) ∧
    at_X2_windAt_10 G d Q b a1 a2 (h (b + 2) (a1).toNatClampNeg) (0 : Int32) h) : Wp G d m_X2_windAt (kEo G d m_X2_windAt Q) 0 [.ref b, .int a1, .int a2, .null, .null, .null] [] h := by
  refine wp_aload_n 1 dX2_windAt_0 rfl rfl ?_
  refine wp_getR 2 (b + 2) 4 dX2_windAt_1 rfl fl_X2_15 (kSea_0 k_b) rfl rfl rfl rfl ?_
  refine wp_iload_n 5 dX2_windAt_4 rfl rfl ?_
  have c1 := H.1; replace H := H.2
  refine wp_iald 6 dX2_windAt_5 rfl (kSea_2 k_b) c1 ?_
  refine wp_istore_n 7 dX2_windAt_6 rfl (Nat.le_of_ble_eq_true rfl) rfl ?_
  refine wp_iconst (0 : Int32) 8 dX2_windAt_7 kiconst_0 rfl ?_
  refine wp_istore 10 dX2_windAt_8 rfl (Nat.le_of_ble_eq_true rfl) rfl ?_
  exact H

theorem cg_X2_windAt {G : kG} {d : Nat} {Q : Int32 → kM → Prop} {b : Nat} {a1 : Int32} {a2 : Int32} {h : kM} (hd : 5 ≤ d) (k_b : kSea b) (H :
    (vp_in a1 2) ∧
    at_X2_windAt_10 G d Q b a1 a2 (h (b + 2) (a1).toNatClampNeg) (0 : Int32) h) : Cal G d m_X2_windAt [.ref b, .int a1, .int a2] h Q :=
  Cal.of [.ref b, .int a1, .int a2, .null, .null, .null] (by decide +kernel) (Nat.le_of_ble_eq_true rfl) rfl (sg_X2_windAt_0 hd k_b H)

theorem sg_X2_windAt_10 {G : kG} {d : Nat} {Q : Int32 → kM → Prop} {b : Nat} {v1 : Int32} {v2 : Int32} {v3 : Int32} {v4 : Int32} {h : kM} (hd : 5 ≤ d) (k_b : kSea b) (H :
    ((((3 : Int32) * (h b 12)) ≤ v4 →
      Q v3 h
    ) ∧ (¬ (((3 : Int32) * (h b 12)) ≤ v4) →
      (vp_in v4 15) ∧
      (vp_in v4 15) ∧
      (((h (b + 8) (v4).toNatClampNeg) = (-1 : Int32) →
        at_X2_windAt_10 G d Q b v1 v2 v3 (v4 + (1 : Int32)) h
      ) ∧ (¬ ((h (b + 8) (v4).toNatClampNeg) = (-1 : Int32)) →
        (((kShare (h (b + 7) (v4).toNatClampNeg) v1) = 0 →
          at_X2_windAt_10 G d Q b v1 v2 v3 (v4 + (1 : Int32)) h
        ) ∧ (¬ ((kShare (h (b + 7) (v4).toNatClampNeg) v1) = 0) →
          (vp_in v4 15) ∧
          (vp_in v4 15 ∧ kTxtOk h (b + 11)) ∧
          ∀ (h8 : kM), kS1 b h h8 →
          at_X2_windAt_10 G d Q b v1 v2 (v3 + ((kShare (h (b + 7) (v4).toNatClampNeg) v1) * (kFo (kVw h b) (v4).toNatClampNeg (v2 - (h (b + 8) (v4).toNatClampNeg))))) (v4 + (1 : Int32)) h8
        ))
      ))
    ))) : at_X2_windAt_10 G d Q b v1 v2 v3 v4 h := by
  show Wp G d m_X2_windAt (kEo G d m_X2_windAt Q) 10 [.ref b, .int v1, .int v2, .int v3, .int v4, .null] [] h
  refine wp_iload 12 dX2_windAt_10 rfl rfl ?_
  refine wp_iconst (3 : Int32) 13 dX2_windAt_12 kiconst_3 rfl ?_
  refine wp_aload_n 14 dX2_windAt_13 rfl rfl ?_
  refine wp_getI 17 dX2_windAt_14 rfl fl_X2_66 (kSea_0 k_b) rfl ?_
  refine wp_imul 18 dX2_windAt_17 rfl ?_
  refine wp_icmp_ge 77 21 dX2_windAt_18 rfl rfl ⟨fun c1 => ?_, fun c1 => ?_⟩
  · replace H := H.1 c1
    refine wp_iload_n 78 dX2_windAt_77 rfl rfl ?_
    exact wp_reti dX2_windAt_78 rfl H
  · replace H := H.2 c1
    refine wp_aload_n 22 dX2_windAt_21 rfl rfl ?_
    refine wp_getR 7 (b + 7) 25 dX2_windAt_22 rfl fl_X2_30 (kSea_0 k_b) rfl rfl rfl rfl ?_
    refine wp_iload 27 dX2_windAt_25 rfl rfl ?_
    have c2 := H.1; replace H := H.2
    refine wp_iald 28 dX2_windAt_27 rfl (kSea_7 k_b) c2 ?_
    refine wp_iload_n 29 dX2_windAt_28 rfl rfl ?_
    refine wp_cN (d - 1) 2 [.int (h (b + 7) (v4).toNatClampNeg), .int v1] [] 32 dX2_windAt_29 rfl (lk_X2_130 rfl) (by omega) rfl rfl (Nat.le_of_ble_eq_true rfl) (sp_X7_share (by omega)  ?_)
    refine wp_istore 34 dX2_windAt_32 rfl (Nat.le_of_ble_eq_true rfl) rfl ?_
    refine wp_aload_n 35 dX2_windAt_34 rfl rfl ?_
    refine wp_getR 8 (b + 8) 38 dX2_windAt_35 rfl fl_X2_33 (kSea_0 k_b) rfl rfl rfl rfl ?_
    refine wp_iload 40 dX2_windAt_38 rfl rfl ?_
    have c3 := H.1; replace H := H.2
    refine wp_iald 41 dX2_windAt_40 rfl (kSea_8 k_b) c3 ?_
    refine wp_iconst (-1 : Int32) 42 dX2_windAt_41 kiconst_m1 rfl ?_
    refine wp_icmp_eq 71 45 dX2_windAt_42 rfl rfl ⟨fun c4 => ?_, fun c4 => ?_⟩
    · replace H := H.1 c4
      refine wp_iinc (1 : Int32) 74 dX2_windAt_71 rfl rfl kiconst_1 (Nat.le_of_ble_eq_true rfl) rfl ?_
      refine wp_goto 10 dX2_windAt_74 rfl ?_
      refine wp_drop 5 ?_
      exact H
    · replace H := H.2 c4
      refine wp_iload 47 dX2_windAt_45 rfl rfl ?_
      refine wp_if_eq 71 50 dX2_windAt_47 rfl rfl ⟨fun c5 => ?_, fun c5 => ?_⟩
      · replace H := H.1 c5
        refine wp_iinc (1 : Int32) 74 dX2_windAt_71 rfl rfl kiconst_1 (Nat.le_of_ble_eq_true rfl) rfl ?_
        refine wp_goto 10 dX2_windAt_74 rfl ?_
        refine wp_drop 5 ?_
        exact H
      · replace H := H.2 c5
        refine wp_iload_n 51 dX2_windAt_50 rfl rfl ?_
        refine wp_iload 53 dX2_windAt_51 rfl rfl ?_
        refine wp_aload_n 54 dX2_windAt_53 rfl rfl ?_
        refine wp_iload 56 dX2_windAt_54 rfl rfl ?_
        refine wp_iload_n 57 dX2_windAt_56 rfl rfl ?_
        refine wp_aload_n 58 dX2_windAt_57 rfl rfl ?_
        refine wp_getR 8 (b + 8) 61 dX2_windAt_58 rfl fl_X2_33 (kSea_0 k_b) rfl rfl rfl rfl ?_
        refine wp_iload 63 dX2_windAt_61 rfl rfl ?_
        have c6 := H.1; replace H := H.2
        refine wp_iald 64 dX2_windAt_63 rfl (kSea_8 k_b) c6 ?_
        refine wp_isub 65 dX2_windAt_64 rfl ?_
        have c7 := H.1; replace H := H.2
        refine wp_cV (d - 1) 2 [.int v4, .int (v2 - (h (b + 8) (v4).toNatClampNeg))] [.int (kShare (h (b + 7) (v4).toNatClampNeg) v1), .int v3] 68 dX2_windAt_65 rfl (lk_X2_99 rfl) (by omega) (kSea_0 k_b) rfl rfl rfl (Nat.le_of_ble_eq_true rfl) (sp_X2_force (by omega) k_b c7 (fun h8 eh8 => ?_))
        replace H := H h8 eh8
        refine wp_imul 69 dX2_windAt_68 rfl ?_
        refine wp_iadd 70 dX2_windAt_69 rfl ?_
        refine wp_istore_n 71 dX2_windAt_70 rfl (Nat.le_of_ble_eq_true rfl) rfl ?_
        refine wp_iinc (1 : Int32) 74 dX2_windAt_71 rfl rfl kiconst_1 (Nat.le_of_ble_eq_true rfl) rfl ?_
        refine wp_goto 10 dX2_windAt_74 rfl ?_
        refine wp_drop 5 ?_
        exact H

theorem lp_windAt (hd : 5 ≤ d) {b : Nat} {what when' : Int32} (hb : kSea b) {n : Nat} (hn : n ≤ 5) (hns : h b 12 = nI n) (ht : kTxtOk h (b + 11)) (k : ∀ h1, kS1 b h h1 → Q (kSum (kWt (kVw h b) what when') (h (b + 2) what.toNatClampNeg) (3 * n)) h1) : ∀ (m i : Nat) (h1 : kM), i + m = 3 * n → kS1 b h h1 → at_X2_windAt_10 G d Q b what when' (kSum (kWt (kVw h b) what when') (h (b + 2) what.toNatClampNeg) i) (nI i) h1 := by
  intro m
  induction m with
  | zero =>
    intro i h1 hi e1
    have hi2 : i = 3 * n := by omega
    subst hi2
    have e12 : h1 b 12 = nI n := by rw [e1 b (by omega) (by omega), hns]
    refine sg_X2_windAt_10 hd hb ⟨fun _ => k h1 e1, fun q => absurd ?_ q⟩
    rw [e12, show (3 : Int32) * nI n = nI (3 * n) from pk_mul 3 n]
    exact nI_le (Nat.le_refl _) (by omega)
  | succ m ih =>
    intro i h1 hi e1
    have e12 : h1 b 12 = nI n := by rw [e1 b (by omega) (by omega), hns]
    have hin : i < 15 := by omega
    have hvi : vp_in (nI i) 15 := vp_in_nI hin (by decide)
    have hcl : (nI i).toNatClampNeg = i := nI_clamp (by omega)
    have nexti : nI i + 1 = nI (i + 1) := nI_1 i
    have x8 : h1 (b + 8) i = kVw h b 8 i := by rw [e1 (b + 8) (by omega) (by omega)]; rfl
    have x7 : h1 (b + 7) i = kVw h b 7 i := by rw [e1 (b + 7) (by omega) (by omega)]; rfl
    refine sg_X2_windAt_10 hd hb ⟨fun q => absurd q ?_, fun _ => ⟨hvi, hvi, ?_⟩⟩
    · rw [e12, show (3 : Int32) * nI n = nI (3 * n) from pk_mul 3 n]
      exact ltn (nI_lt (by omega) (by omega))
    rw [hcl, x8, x7, nexti]
    have step : ∀ h2, kS1 b h h2 → at_X2_windAt_10 G d Q b what when' (kSum (kWt (kVw h b) what when') (h (b + 2) what.toNatClampNeg) i + kWt (kVw h b) what when' i) (nI (i + 1)) h2 := fun h2 e2 => ih (i + 1) h2 (by omega) e2
    unfold kWt at step
    have step0 := step h1 e1
    refine ⟨fun c => ?_, fun c => ⟨fun c2 => ?_, fun c2 => ⟨hvi, ?_⟩⟩⟩
    · rw [if_pos c, Int32.add_zero] at step0
      exact step0
    · rw [if_neg c, c2, Int32.zero_mul, Int32.add_zero] at step0
      exact step0
    · refine ⟨⟨hvi, e1.txt (Or.inl rfl) ht⟩, fun h2 e2 => ?_⟩
      have s2 := step h2 (e1.tr e2)
      rw [if_neg c] at s2
      rw [kFo_S1 e1]
      exact s2
theorem sp_X2_windAt (hd : 5 ≤ d) {b : Nat} {what when' : Int32} (hb : kSea b) (ho : vp_in what 2 ∧ kSeaOk (kVw h b)) (k : ∀ h1, kS1 b h h1 → Q (kWn (kVw h b) what when') h1) : Cal G d m_X2_windAt [.ref b, .int what, .int when'] h Q := by
  obtain ⟨hw, ⟨n, hn, hns⟩, ht, -⟩ := ho
  have hns : h b 12 = nI n := hns
  refine cg_X2_windAt hd hb ⟨hw, ?_⟩
  have e : kNs (kVw h b) = n := by
    show (h b 12).toNatClampNeg = n
    rw [hns, nI_clamp (by omega)]
  unfold kWn at k
  rw [e] at k
  exact lp_windAt hd hb hn hns ht k (3 * n) 0 h (by omega) kS1.rf
end Wind

