/-! soonest, race -/
section Soon
variable {G : kG} {d : Nat} {Q : Int32 → kM → Prop} {h : kM}
/-- the best so far, in the model -/
def kMb (h : kM) (b : Option (Nat × Nat × Nat)) : Prop := (b = none → h 88 13 = -1) ∧ ∀ B, b = some B → h 88 13 = nI B.1 ∧ h 88 14 = nI B.2.1 ∧ h 88 15 = nI B.2.2 ∧ B.1 ≤ 10 ∧ B.2.1 ≤ 10 ∧ B.2.2 < 4 ^ 10
/-- behind one more end, or none -/
def kUp2 (b o b' : Option (Nat × Nat × Nat)) : Prop := (o = none → b' = b) ∧ (∀ q, o = some q → (b' = b ∨ b' = some q) ∧ ∃ B, b' = some B ∧ ¬ kLt q.1 q.2.1 q.2.2 B.1 B.2.1 B.2.2) ∧ ∀ B, b = some B → ∃ B', b' = some B' ∧ ¬ kLt B.1 B.2.1 B.2.2 B'.1 B'.2.1 B'.2.2
theorem kUp2.no {b : Option (Nat × Nat × Nat)} : kUp2 b none b := ⟨fun _ => rfl, fun q e => (by cases e), fun B e => ⟨B, e, kLt_irr _ _ _⟩⟩
theorem kUp2.keep {b : Option (Nat × Nat × Nat)} {q B : Nat × Nat × Nat} (e : b = some B) (n : ¬ kLt q.1 q.2.1 q.2.2 B.1 B.2.1 B.2.2) : kUp2 b (some q) b := ⟨fun e => (by cases e), fun q' e' => by cases e'; exact ⟨Or.inl rfl, B, e, n⟩, fun B e => ⟨B, e, kLt_irr _ _ _⟩⟩
theorem kUp2.new {b : Option (Nat × Nat × Nat)} {q : Nat × Nat × Nat} (n : ∀ B, b = some B → ¬ kLt B.1 B.2.1 B.2.2 q.1 q.2.1 q.2.2) : kUp2 b (some q) (some q) := ⟨fun e => (by cases e), fun q' e' => by cases e'; exact ⟨Or.inr rfl, q, rfl, kLt_irr _ _ _⟩, fun B e => ⟨q, rfl, n B e⟩⟩
def at_X8_tries_12 (G : kG) (d : Nat) (Q : Int32 → kM → Prop)  (v1 : Int32) (v2 : Int32) (v3 : Int32) (v4 : Int32) (v5 : Int32) (v6 : Int32) (v7 : Int32) (h : kM) : Prop := Wp G d m_X8_tries (kEo G d m_X8_tries Q) 12 [.ref 88, .int v1, .int v2, .int v3, .int v4, .int v5, .int v6, .int v7, .null] [] h
def at_X8_tries_71 (G : kG) (d : Nat) (Q : Int32 → kM → Prop)  (v1 : Int32) (v2 : Int32) (v3 : Int32) (v4 : Int32) (v5 : Int32) (v6 : Int32) (v7 : Int32) (v8 : Int32) (h : kM) : Prop := Wp G d m_X8_tries (kEo G d m_X8_tries Q) 71 [.ref 88, .int v1, .int v2, .int v3, .int v4, .int v5, .int v6, .int v7, .int v8] [] h
def at_X8_tries_90 (G : kG) (d : Nat) (Q : Int32 → kM → Prop)  (v1 : Int32) (v2 : Int32) (v3 : Int32) (v4 : Int32) (v5 : Int32) (v6 : Int32) (v7 : Int32) (h : kM) : Prop := Wp G d m_X8_tries (kEo G d m_X8_tries Q) 90 [.ref 88, .int v1, .int v2, .int v3, .int v4, .int v5, .int v6, .int v7, .null] [] h
def at_X8_tries_150 (G : kG) (d : Nat) (Q : Int32 → kM → Prop)  (v1 : Int32) (v2 : Int32) (v3 : Int32) (v4 : Int32) (v5 : Int32) (v6 : Int32) (v7 : Int32) (v8 : Int32) (h : kM) : Prop := Wp G d m_X8_tries (kEo G d m_X8_tries Q) 150 [.ref 88, .int v1, .int v2, .int v3, .int v4, .int v5, .int v6, .int v7, .int v8] [] h
theorem sg_X8_tries_0 {G : kG} {d : Nat} {Q : Int32 → kM → Prop}  {a1 : Int32} {a2 : Int32} {a3 : Int32} {h : kM} (hd : 8 ≤ d)  (H :
    at_X8_tries_12 G d Q a1 a2 a3 (0 : Int32) (0 : Int32) (0 : Int32) (1 : Int32) h) : Wp G d m_X8_tries (kEo G d m_X8_tries Q) 0 [.ref 88, .int a1, .int a2, .int a3, .null, .null, .null, .null, .null] [] h := by
  refine wp_iconst (0 : Int32) 1 dX8_tries_0 kiconst_0 rfl ?_
  refine wp_istore 3 dX8_tries_1 rfl (Nat.le_of_ble_eq_true rfl) rfl ?_
  refine wp_iconst (0 : Int32) 4 dX8_tries_3 kiconst_0 rfl ?_
  refine wp_istore 6 dX8_tries_4 rfl (Nat.le_of_ble_eq_true rfl) rfl ?_
  refine wp_iconst (0 : Int32) 7 dX8_tries_6 kiconst_0 rfl ?_
  refine wp_istore 9 dX8_tries_7 rfl (Nat.le_of_ble_eq_true rfl) rfl ?_
  refine wp_iconst (1 : Int32) 10 dX8_tries_9 kiconst_1 rfl ?_
  refine wp_istore 12 dX8_tries_10 rfl (Nat.le_of_ble_eq_true rfl) rfl ?_
  exact H

theorem cg_X8_tries {G : kG} {d : Nat} {Q : Int32 → kM → Prop}  {a1 : Int32} {a2 : Int32} {a3 : Int32} {h : kM} (hd : 8 ≤ d)  (H :
    at_X8_tries_12 G d Q a1 a2 a3 (0 : Int32) (0 : Int32) (0 : Int32) (1 : Int32) h) : Cal G d m_X8_tries [.ref 88, .int a1, .int a2, .int a3] h Q :=
  Cal.of [.ref 88, .int a1, .int a2, .int a3, .null, .null, .null, .null, .null] (by decide +kernel) (Nat.le_of_ble_eq_true rfl) rfl (sg_X8_tries_0 hd  H)

theorem sg_X8_tries_12 {G : kG} {d : Nat} {Q : Int32 → kM → Prop}  {v1 : Int32} {v2 : Int32} {v3 : Int32} {v4 : Int32} {v5 : Int32} {v6 : Int32} {v7 : Int32} {h : kM} (hd : 8 ≤ d)  (H :
    ((v7 = 0 →
      at_X8_tries_90 G d Q v1 v2 v3 v4 v5 v6 v7 h
    ) ∧ (¬ (v7 = 0) →
      ((v3 ≤ v6 →
        at_X8_tries_90 G d Q v1 v2 v3 v4 v5 v6 v7 h
      ) ∧ (¬ (v3 ≤ v6) →
        (okO v1 (2 : Int32)) ∧
        ((¬ (mOf (h 89) v1 (2 : Int32)) = 0 →
          at_X8_tries_90 G d Q v1 v2 v3 v4 v5 v6 v7 h
        ) ∧ ((mOf (h 89) v1 (2 : Int32)) = 0 →
          (((3 : Int32) ≤ (mLA v2 v6) →
            at_X8_tries_71 G d Q v1 v2 v3 v4 v5 v6 v7 (mLA v2 v6) h
          ) ∧ (¬ ((3 : Int32) ≤ (mLA v2 v6)) →
            (okI (((3 : Int32) * v1) + (mLA v2 v6)) 3 ∧ okO ((((3 : Int32) * v1) + (mLA v2 v6)) / 3) 2) ∧
            (okI (((3 : Int32) * v1) + (mLA v2 v6)) 3) ∧
            ∀ h8 : kM, h8 = mLo h (((3 : Int32) * v1) + (mLA v2 v6)) →
            at_X8_tries_71 G d Q v1 v2 v3 v4 (v5 + (1 : Int32)) v6 (kb (mIt (h 89) (((3 : Int32) * v1) + (mLA v2 v6)) 3 = -1 ∧ kDay (h 89 1) ∧ ¬ mOf (h 89) ((((3 : Int32) * v1) + (mLA v2 v6)) / 3) 2 = 1)) (mLA v2 v6) h8
          ))
        ))
      ))
    ))) : at_X8_tries_12 G d Q v1 v2 v3 v4 v5 v6 v7 h := by
  show Wp G d m_X8_tries (kEo G d m_X8_tries Q) 12 [.ref 88, .int v1, .int v2, .int v3, .int v4, .int v5, .int v6, .int v7, .null] [] h
  refine wp_iload 14 dX8_tries_12 rfl rfl ?_
  refine wp_if_eq 90 17 dX8_tries_14 rfl rfl ⟨fun c1 => ?_, fun c1 => ?_⟩
  · replace H := H.1 c1
    exact H
  · replace H := H.2 c1
    refine wp_iload 19 dX8_tries_17 rfl rfl ?_
    refine wp_iload_n 20 dX8_tries_19 rfl rfl ?_
    refine wp_icmp_ge 90 23 dX8_tries_20 rfl rfl ⟨fun c2 => ?_, fun c2 => ?_⟩
    · replace H := H.1 c2
      exact H
    · replace H := H.2 c2
      refine wp_aload_n 24 dX8_tries_23 rfl rfl ?_
      refine wp_iload_n 25 dX8_tries_24 rfl rfl ?_
      refine wp_iconst (2 : Int32) 26 dX8_tries_25 kiconst_2 rfl ?_
      have c3 := H.1; replace H := H.2
      refine wp_cV (d - 1) 2 [.int v1, .int (2 : Int32)] [] 29 dX8_tries_26 rfl (lk_X8_146 rfl) (by omega) kd_88 rfl rfl rfl (Nat.le_of_ble_eq_true rfl) (sp_X8_of (by omega) c3 ?_)
      refine wp_if_ne 90 32 dX8_tries_29 rfl rfl ⟨fun c4 => ?_, fun c4 => ?_⟩
      · replace H := H.1 c4
        exact H
      · replace H := H.2 c4
        refine wp_iload_n 33 dX8_tries_32 rfl rfl ?_
        refine wp_iload 35 dX8_tries_33 rfl rfl ?_
        refine wp_cS (d - 1) 2 [.int v2, .int v6] [] 38 dX8_tries_35 rfl (lk_X8_206 rfl) (by omega) rfl rfl (Nat.le_of_ble_eq_true rfl) (sp_X8_loosedAt (by omega)  ?_)
        refine wp_istore 40 dX8_tries_38 rfl (Nat.le_of_ble_eq_true rfl) rfl ?_
        refine wp_iload 42 dX8_tries_40 rfl rfl ?_
        refine wp_iconst (3 : Int32) 43 dX8_tries_42 kiconst_3 rfl ?_
        refine wp_icmp_ge 71 46 dX8_tries_43 rfl rfl ⟨fun c5 => ?_, fun c5 => ?_⟩
        · replace H := H.1 c5
          exact H
        · replace H := H.2 c5
          refine wp_aload_n 47 dX8_tries_46 rfl rfl ?_
          refine wp_iconst (3 : Int32) 48 dX8_tries_47 kiconst_3 rfl ?_
          refine wp_iload_n 49 dX8_tries_48 rfl rfl ?_
          refine wp_imul 50 dX8_tries_49 rfl ?_
          refine wp_iload 52 dX8_tries_50 rfl rfl ?_
          refine wp_iadd 53 dX8_tries_52 rfl ?_
          have c6 := H.1; replace H := H.2
          refine wp_cV (d - 1) 1 [.int (((3 : Int32) * v1) + (mLA v2 v6))] [] 56 dX8_tries_53 rfl (lk_X8_174 rfl) (by omega) kd_88 rfl rfl rfl (Nat.le_of_ble_eq_true rfl) (sp_X8_mayLoose (by omega) c6 ?_)
          refine wp_istore 58 dX8_tries_56 rfl (Nat.le_of_ble_eq_true rfl) rfl ?_
          refine wp_aload_n 59 dX8_tries_58 rfl rfl ?_
          refine wp_iconst (3 : Int32) 60 dX8_tries_59 kiconst_3 rfl ?_
          refine wp_iload_n 61 dX8_tries_60 rfl rfl ?_
          refine wp_imul 62 dX8_tries_61 rfl ?_
          refine wp_iload 64 dX8_tries_62 rfl rfl ?_
          refine wp_iadd 65 dX8_tries_64 rfl ?_
          have c7 := H.1; replace H := H.2
          refine wp_cV (d - 1) 1 [.int (((3 : Int32) * v1) + (mLA v2 v6))] [] 68 dX8_tries_65 rfl (lk_X8_177 rfl) (by omega) kd_88 rfl rfl rfl (Nat.le_of_ble_eq_true rfl) (sp_X8_looses (by omega) c7 (fun h8 eh8 => ?_))
          replace H := H h8 eh8
          refine wp_iinc (1 : Int32) 71 dX8_tries_68 rfl rfl kiconst_1 (Nat.le_of_ble_eq_true rfl) rfl ?_
          exact H

theorem sg_X8_tries_71 {G : kG} {d : Nat} {Q : Int32 → kM → Prop}  {v1 : Int32} {v2 : Int32} {v3 : Int32} {v4 : Int32} {v5 : Int32} {v6 : Int32} {v7 : Int32} {v8 : Int32} {h : kM} (hd : 8 ≤ d)  (H :
    Cal G (d - 1) m_X8_hour [.ref 88] h (fun x1 h2 =>
      at_X8_tries_12 G d Q v1 v2 v3 (((4 : Int32) * v4) + v8) v5 (v6 + (1 : Int32)) v7 h2
    )) : at_X8_tries_71 G d Q v1 v2 v3 v4 v5 v6 v7 v8 h := by
  show Wp G d m_X8_tries (kEo G d m_X8_tries Q) 71 [.ref 88, .int v1, .int v2, .int v3, .int v4, .int v5, .int v6, .int v7, .int v8] [] h
  refine wp_iconst (4 : Int32) 72 dX8_tries_71 kiconst_4 rfl ?_
  refine wp_iload 74 dX8_tries_72 rfl rfl ?_
  refine wp_imul 75 dX8_tries_74 rfl ?_
  refine wp_iload 77 dX8_tries_75 rfl rfl ?_
  refine wp_iadd 78 dX8_tries_77 rfl ?_
  refine wp_istore 80 dX8_tries_78 rfl (Nat.le_of_ble_eq_true rfl) rfl ?_
  refine wp_aload_n 81 dX8_tries_80 rfl rfl ?_
  refine wp_cV (d - 1) 0 [] [] 84 dX8_tries_81 rfl (lk_X8_187 rfl) (by omega) kd_88 rfl rfl rfl (Nat.le_of_ble_eq_true rfl) (H.mono (fun x1 h2 H => ?_))
  refine wp_iinc (1 : Int32) 87 dX8_tries_84 rfl rfl kiconst_1 (Nat.le_of_ble_eq_true rfl) rfl ?_
  refine wp_goto 12 dX8_tries_87 rfl ?_
  refine wp_drop 8 ?_
  exact H

theorem sg_X8_tries_90 {G : kG} {d : Nat} {Q : Int32 → kM → Prop}  {v1 : Int32} {v2 : Int32} {v3 : Int32} {v4 : Int32} {v5 : Int32} {v6 : Int32} {v7 : Int32} {h : kM} (hd : 8 ≤ d)  (H :
    (((h 88 13) = (-1 : Int32) →
      at_X8_tries_150 G d Q v1 v2 v3 v4 v5 v6 v7 (1 : Int32) h
    ) ∧ (¬ ((h 88 13) = (-1 : Int32)) →
      ((v6 < (h 88 13) →
        at_X8_tries_150 G d Q v1 v2 v3 v4 v5 v6 v7 (1 : Int32) h
      ) ∧ (¬ (v6 < (h 88 13)) →
        ((¬ v6 = (h 88 13) →
          at_X8_tries_150 G d Q v1 v2 v3 v4 v5 v6 v7 (0 : Int32) h
        ) ∧ (v6 = (h 88 13) →
          ((v5 < (h 88 14) →
            at_X8_tries_150 G d Q v1 v2 v3 v4 v5 v6 v7 (1 : Int32) h
          ) ∧ (¬ (v5 < (h 88 14)) →
            ((¬ v5 = (h 88 14) →
              at_X8_tries_150 G d Q v1 v2 v3 v4 v5 v6 v7 (0 : Int32) h
            ) ∧ (v5 = (h 88 14) →
              (((h 88 15) ≤ v4 →
                at_X8_tries_150 G d Q v1 v2 v3 v4 v5 v6 v7 (0 : Int32) h
              ) ∧ (¬ ((h 88 15) ≤ v4) →
                at_X8_tries_150 G d Q v1 v2 v3 v4 v5 v6 v7 (1 : Int32) h
              ))
            ))
          ))
        ))
      ))
    ))) : at_X8_tries_90 G d Q v1 v2 v3 v4 v5 v6 v7 h := by
  show Wp G d m_X8_tries (kEo G d m_X8_tries Q) 90 [.ref 88, .int v1, .int v2, .int v3, .int v4, .int v5, .int v6, .int v7, .null] [] h
  refine wp_aload_n 91 dX8_tries_90 rfl rfl ?_
  refine wp_getI 94 dX8_tries_91 rfl fl_X8_209 kd_88 rfl ?_
  refine wp_iconst (-1 : Int32) 95 dX8_tries_94 kiconst_m1 rfl ?_
  refine wp_icmp_eq 143 98 dX8_tries_95 rfl rfl ⟨fun c1 => ?_, fun c1 => ?_⟩
  · replace H := H.1 c1
    refine wp_iconst (1 : Int32) 144 dX8_tries_143 kiconst_1 rfl ?_
    refine wp_goto 148 dX8_tries_144 rfl ?_
    refine wp_istore 150 dX8_tries_148 rfl (Nat.le_of_ble_eq_true rfl) rfl ?_
    exact H
  · replace H := H.2 c1
    refine wp_iload 100 dX8_tries_98 rfl rfl ?_
    refine wp_aload_n 101 dX8_tries_100 rfl rfl ?_
    refine wp_getI 104 dX8_tries_101 rfl fl_X8_209 kd_88 rfl ?_
    refine wp_icmp_lt 143 107 dX8_tries_104 rfl rfl ⟨fun c2 => ?_, fun c2 => ?_⟩
    · replace H := H.1 c2
      refine wp_iconst (1 : Int32) 144 dX8_tries_143 kiconst_1 rfl ?_
      refine wp_goto 148 dX8_tries_144 rfl ?_
      refine wp_istore 150 dX8_tries_148 rfl (Nat.le_of_ble_eq_true rfl) rfl ?_
      exact H
    · replace H := H.2 c2
      refine wp_iload 109 dX8_tries_107 rfl rfl ?_
      refine wp_aload_n 110 dX8_tries_109 rfl rfl ?_
      refine wp_getI 113 dX8_tries_110 rfl fl_X8_209 kd_88 rfl ?_
      refine wp_icmp_ne 147 116 dX8_tries_113 rfl rfl ⟨fun c3 => ?_, fun c3 => ?_⟩
      · replace H := H.1 c3
        refine wp_iconst (0 : Int32) 148 dX8_tries_147 kiconst_0 rfl ?_
        refine wp_istore 150 dX8_tries_148 rfl (Nat.le_of_ble_eq_true rfl) rfl ?_
        exact H
      · replace H := H.2 c3
        refine wp_iload 118 dX8_tries_116 rfl rfl ?_
        refine wp_aload_n 119 dX8_tries_118 rfl rfl ?_
        refine wp_getI 122 dX8_tries_119 rfl fl_X8_212 kd_88 rfl ?_
        refine wp_icmp_lt 143 125 dX8_tries_122 rfl rfl ⟨fun c4 => ?_, fun c4 => ?_⟩
        · replace H := H.1 c4
          refine wp_iconst (1 : Int32) 144 dX8_tries_143 kiconst_1 rfl ?_
          refine wp_goto 148 dX8_tries_144 rfl ?_
          refine wp_istore 150 dX8_tries_148 rfl (Nat.le_of_ble_eq_true rfl) rfl ?_
          exact H
        · replace H := H.2 c4
          refine wp_iload 127 dX8_tries_125 rfl rfl ?_
          refine wp_aload_n 128 dX8_tries_127 rfl rfl ?_
          refine wp_getI 131 dX8_tries_128 rfl fl_X8_212 kd_88 rfl ?_
          refine wp_icmp_ne 147 134 dX8_tries_131 rfl rfl ⟨fun c5 => ?_, fun c5 => ?_⟩
          · replace H := H.1 c5
            refine wp_iconst (0 : Int32) 148 dX8_tries_147 kiconst_0 rfl ?_
            refine wp_istore 150 dX8_tries_148 rfl (Nat.le_of_ble_eq_true rfl) rfl ?_
            exact H
          · replace H := H.2 c5
            refine wp_iload 136 dX8_tries_134 rfl rfl ?_
            refine wp_aload_n 137 dX8_tries_136 rfl rfl ?_
            refine wp_getI 140 dX8_tries_137 rfl fl_X8_215 kd_88 rfl ?_
            refine wp_icmp_ge 147 143 dX8_tries_140 rfl rfl ⟨fun c6 => ?_, fun c6 => ?_⟩
            · replace H := H.1 c6
              refine wp_iconst (0 : Int32) 148 dX8_tries_147 kiconst_0 rfl ?_
              refine wp_istore 150 dX8_tries_148 rfl (Nat.le_of_ble_eq_true rfl) rfl ?_
              exact H
            · replace H := H.2 c6
              refine wp_iconst (1 : Int32) 144 dX8_tries_143 kiconst_1 rfl ?_
              refine wp_goto 148 dX8_tries_144 rfl ?_
              refine wp_istore 150 dX8_tries_148 rfl (Nat.le_of_ble_eq_true rfl) rfl ?_
              exact H

theorem sg_X8_tries_150 {G : kG} {d : Nat} {Q : Int32 → kM → Prop}  {v1 : Int32} {v2 : Int32} {v3 : Int32} {v4 : Int32} {v5 : Int32} {v6 : Int32} {v7 : Int32} {v8 : Int32} {h : kM} (hd : 8 ≤ d)  (H :
    ((v7 = 0 →
      Q 0 h
    ) ∧ (¬ (v7 = 0) →
      (okO v1 (2 : Int32)) ∧
      ((¬ (mOf (h 89) v1 (2 : Int32)) = (2 : Int32) →
        Q 0 h
      ) ∧ ((mOf (h 89) v1 (2 : Int32)) = (2 : Int32) →
        ((v8 = 0 →
          Q 0 h
        ) ∧ (¬ (v8 = 0) →
          ∀ h5 : kM, h5 = kU h 88 13 v6 →
          ∀ h6 : kM, h6 = kU h5 88 14 v5 →
          ∀ h7 : kM, h7 = kU h6 88 15 v4 →
          Q 0 h7
        ))
      ))
    ))) : at_X8_tries_150 G d Q v1 v2 v3 v4 v5 v6 v7 v8 h := by
  show Wp G d m_X8_tries (kEo G d m_X8_tries Q) 150 [.ref 88, .int v1, .int v2, .int v3, .int v4, .int v5, .int v6, .int v7, .int v8] [] h
  refine wp_iload 152 dX8_tries_150 rfl rfl ?_
  refine wp_if_eq 188 155 dX8_tries_152 rfl rfl ⟨fun c1 => ?_, fun c1 => ?_⟩
  · replace H := H.1 c1
    exact wp_retv dX8_tries_188 rfl H
  · replace H := H.2 c1
    refine wp_aload_n 156 dX8_tries_155 rfl rfl ?_
    refine wp_iload_n 157 dX8_tries_156 rfl rfl ?_
    refine wp_iconst (2 : Int32) 158 dX8_tries_157 kiconst_2 rfl ?_
    have c2 := H.1; replace H := H.2
    refine wp_cV (d - 1) 2 [.int v1, .int (2 : Int32)] [] 161 dX8_tries_158 rfl (lk_X8_146 rfl) (by omega) kd_88 rfl rfl rfl (Nat.le_of_ble_eq_true rfl) (sp_X8_of (by omega) c2 ?_)
    refine wp_iconst (2 : Int32) 162 dX8_tries_161 kiconst_2 rfl ?_
    refine wp_icmp_ne 188 165 dX8_tries_162 rfl rfl ⟨fun c3 => ?_, fun c3 => ?_⟩
    · replace H := H.1 c3
      exact wp_retv dX8_tries_188 rfl H
    · replace H := H.2 c3
      refine wp_iload 167 dX8_tries_165 rfl rfl ?_
      refine wp_if_eq 188 170 dX8_tries_167 rfl rfl ⟨fun c4 => ?_, fun c4 => ?_⟩
      · replace H := H.1 c4
        exact wp_retv dX8_tries_188 rfl H
      · replace H := H.2 c4
        refine wp_aload_n 171 dX8_tries_170 rfl rfl ?_
        refine wp_iload 173 dX8_tries_171 rfl rfl ?_
        refine wp_putI 176 dX8_tries_173 rfl fl_X8_209 fin_8_13 kd_88 rfl ?_
        refine wp_nm (fun h5 eh5 => ?_)
        replace H := H h5 eh5
        refine wp_aload_n 177 dX8_tries_176 rfl rfl ?_
        refine wp_iload 179 dX8_tries_177 rfl rfl ?_
        refine wp_putI 182 dX8_tries_179 rfl fl_X8_212 fin_8_14 kd_88 rfl ?_
        refine wp_nm (fun h6 eh6 => ?_)
        replace H := H h6 eh6
        refine wp_aload_n 183 dX8_tries_182 rfl rfl ?_
        refine wp_iload 185 dX8_tries_183 rfl rfl ?_
        refine wp_putI 188 dX8_tries_185 rfl fl_X8_215 fin_8_15 kd_88 rfl ?_
        refine wp_nm (fun h7 eh7 => ?_)
        replace H := H h7 eh7
        exact wp_retv dX8_tries_188 rfl H

theorem lf_tries (hd : 8 ≤ d) {p t l r x2 : Nat} {c a2 a3 : Int32} {ro b : Option (Nat × Nat × Nat)} (hp : p < 5) (ht : t ≤ 10) (hl : l ≤ 10) (hr : r < 4 ^ 10) (hc : c = 0 ∨ c = 1) (hx2 : x2 < 3) (st : h 89 (74 + 3 * p) = nI x2) (B : kMb h b) (e0 : c = 0 ∨ ¬ x2 = 2 → ro = none) (e1 : c = 1 → x2 = 2 → ro = some (t, l, r)) (kk : ∀ h2 b', (∀ a, a ≠ 88 → h2 a = h a) → (∀ s, s ≠ 13 → s ≠ 14 → s ≠ 15 → h2 88 s = h 88 s) → kMb h2 b' → kUp2 b ro b' → Q 0 h2) : at_X8_tries_90 G d Q (nI p) a2 a3 (nI r) (nI l) (nI t) c h := by
  have p10 : 4 ^ 10 = 1048576 := by decide
  have l150 : ∀ f8 : Int32, (f8 = 0 → ∃ B, b = some B ∧ ¬ kLt t l r B.1 B.2.1 B.2.2) → (¬ f8 = 0 → ∀ B, b = some B → ¬ kLt B.1 B.2.1 B.2.2 t l r) → at_X8_tries_150 G d Q (nI p) a2 a3 (nI r) (nI l) (nI t) c f8 h := fun f8 q0 q1 => by
    refine sg_X8_tries_150 hd ⟨fun c0 => kk h b (fun _ _ => rfl) (fun _ _ _ _ => rfl) B (by rw [e0 (Or.inl c0)]; exact kUp2.no), fun c1 => ⟨okO_n (w := 2) hp (by decide), ?_⟩⟩
    have c1 : c = 1 := hc.resolve_left c1
    rw [mOf_2 hp, st]
    refine ⟨fun n2 => kk h b (fun _ _ => rfl) (fun _ _ _ _ => rfl) B (by rw [e0 (Or.inr (fun e => n2 (by rw [e]; rfl)))]; exact kUp2.no), fun y2 => ?_⟩
    have y2 : x2 = 2 := (nI_eq (b := 2) (by omega) (by decide)).mp y2
    refine ⟨fun f0 => ?_, fun f1 h5 e5 h6 e6 h7 e7 => ?_⟩
    · obtain ⟨B', eB, nB⟩ := q0 f0
      exact kk h b (fun _ _ => rfl) (fun _ _ _ _ => rfl) B (by rw [e1 c1 y2]; exact kUp2.keep eB nB)
    · have c7 : h7 88 = upd (upd (upd (h 88) 13 (nI t)) 14 (nI l)) 15 (nI r) := by rw [e7, kU_eq, e6, kU_eq, e5, kU_eq]
      refine kk h7 (some (t, l, r)) (fun a ha => by rw [e7, kU_ne ha, e6, kU_ne ha, e5, kU_ne ha]) (fun s s1 s2 s3 => by rw [c7, pk_un s3, pk_un s2, pk_un s1]) ⟨fun e => (by cases e), fun B' eB => ?_⟩ (by rw [e1 c1 y2]; exact kUp2.new (q1 f1))
      cases eB
      refine ⟨?_, ?_, ?_, ht, hl, hr⟩
      · rw [c7, pk_un (by decide), pk_un (by decide), pk_us]
      · rw [c7, pk_un (by decide), pk_us]
      · rw [c7, pk_us]
  obtain ⟨B0, B1⟩ := B
  cases hb : b with
  | none =>
    have z := B0 hb
    exact sg_X8_tries_90 hd ⟨fun _ => l150 1 (fun e => absurd e (by decide)) (fun _ B' eB => by rw [hb] at eB; cases eB), fun y => absurd z y⟩
  | some B' =>
    obtain ⟨y1, y2, y3, z1, z2, z3⟩ := B1 B' hb
    have only : ∀ B'', b = some B'' → B'' = B' := fun B'' e => by rw [hb] at e; cases e; rfl
    have up : kLt t l r B'.1 B'.2.1 B'.2.2 → at_X8_tries_150 G d Q (nI p) a2 a3 (nI r) (nI l) (nI t) c 1 h := fun lt =>
      l150 1 (fun e => absurd e (by decide)) (fun _ B'' e => by rw [only B'' e]; unfold kLt at lt ⊢; omega)
    have no : ¬ kLt t l r B'.1 B'.2.1 B'.2.2 → at_X8_tries_150 G d Q (nI p) a2 a3 (nI r) (nI l) (nI t) c 0 h := fun nl =>
      l150 0 (fun _ => ⟨B', hb, nl⟩) (fun e => absurd rfl e)
    refine sg_X8_tries_90 hd ?_
    rw [y1, y2, y3]
    refine ⟨fun e => absurd e (nI_m1 (by omega)), fun _ => ⟨fun lt => up (Or.inl ((nI_ltI (by omega) (by omega)).mp lt)), fun nl => ⟨fun ne => no ?_, fun e => ⟨fun lt => up ?_, fun nl2 => ⟨fun ne2 => no ?_, fun e2 => ⟨fun le => no ?_, fun gt => up ?_⟩⟩⟩⟩⟩⟩
    · have a1 : ¬ t < B'.1 := fun y => nl (nI_lt y (by omega))
      have a2 : ¬ t = B'.1 := fun y => ne (by rw [y])
      unfold kLt
      omega
    · have a1 : t = B'.1 := (nI_eq (by omega) (by omega)).mp e
      have a2 : l < B'.2.1 := (nI_ltI (by omega) (by omega)).mp lt
      unfold kLt
      omega
    · have a1 : t = B'.1 := (nI_eq (by omega) (by omega)).mp e
      have a2 : ¬ l < B'.2.1 := fun y => nl2 (nI_lt y (by omega))
      have a3 : ¬ l = B'.2.1 := fun y => ne2 (by rw [y])
      unfold kLt
      omega
    · have a1 : t = B'.1 := (nI_eq (by omega) (by omega)).mp e
      have a2 : l = B'.2.1 := (nI_eq (by omega) (by omega)).mp e2
      have a3 : B'.2.2 ≤ r := (nI_leI (by omega) (by omega)).mp le
      unfold kLt
      omega
    · have a1 : t = B'.1 := (nI_eq (by omega) (by omega)).mp e
      have a2 : l = B'.2.1 := (nI_eq (by omega) (by omega)).mp e2
      have a3 : ¬ B'.2.2 ≤ r := fun y => gt (nI_le y (by omega))
      unfold kLt
      omega
/-- between the tries only this differs -/
def kTf (h h' : kM) : Prop := (∀ a, a ≠ 89 → a ≠ 95 → a ≠ 96 → h' a = h a) ∧ ∀ j, 147 ≤ j → h' 89 j = h 89 j
theorem lp_tries (hd : 8 ≤ d) {v : kM} {p n H f w ns wy : Nat} {ro b : Option (Nat × Nat × Nat)} (hH : v 0 13 = nI H) (hH9 : H ≤ 9999) (hns : kNs v = ns) (hp : p < ns) (hn : n ≤ 10) (hw : wy < 1728) (B : kMb h b) (kk : ∀ h2 b', (∀ a, a ≠ 88 → a ≠ 89 → a ≠ 95 → a ≠ 96 → h2 a = h a) → (∀ j, 147 ≤ j → h2 89 j = h 89 j) → (∀ s, s ≠ 13 → s ≠ 14 → s ≠ 15 → h2 88 s = h 88 s) → kMb h2 b' → kUp2 b ro b' → Q 0 h2) : ∀ (m t : Nat) (u : kM) (x : Nat × Nat) (s : Nat → Int32) (l r : Nat) (h1 : kM), t + m = n → kSRn u (h1 89) ns (H + t) f w → kTk v u p t s x → kSwt s t → kTs v p s → x.1 < 64 → x.2 < 3 → l ≤ t → r < 4 ^ t → kTf h h1 → kRun v p (kLA wy) m t x s l r = ro → at_X8_tries_12 G d Q (nI p) (nI wy) (nI n) (nI r) (nI l) (nI t) 1 h1 := by
  have p10 : 4 ^ 10 = 1048576 := by decide
  have pw : ∀ t r, t ≤ 10 → r < 4 ^ t → r < 4 ^ 10 := fun t r ht hr => Nat.lt_of_lt_of_le hr (Nat.pow_le_pow_right (by decide) ht)
  have leaf : ∀ (t l r x2 : Nat) (c : Int32) (h1 : kM), p < 5 → t ≤ 10 → l ≤ 10 → r < 4 ^ 10 → (c = 0 ∨ c = 1) → x2 < 3 → h1 89 (74 + 3 * p) = nI x2 → kTf h h1 → (c = 0 ∨ ¬ x2 = 2 → ro = none) → (c = 1 → x2 = 2 → ro = some (t, l, r)) → at_X8_tries_90 G d Q (nI p) (nI wy) (nI n) (nI r) (nI l) (nI t) c h1 := by
    intro t l r x2 c h1 hp5 ht hl hr hc hx2 st q e0 e1
    refine lf_tries hd hp5 ht hl hr hc hx2 st (b := b) ?_ e0 e1 (fun h2 b' o2 s2 B2 U2 => kk h2 b' (fun a a1 a2 a3 a4 => by rw [o2 a a1, q.1 a a2 a3 a4]) (fun j hj => by rw [o2 89 (by decide), q.2 j hj]) (fun s s1 s3 s4 => by rw [s2 s s1 s3 s4, q.1 88 (by decide) (by decide) (by decide)]) B2 U2)
    unfold kMb at B ⊢
    rw [q.1 88 (by decide) (by decide) (by decide)]
    exact B
  intro m
  induction m with
  | zero =>
    intro t u x s l r h1 htm hS k sw ts x1 x2 hl hr q er
    have hns5 := hS.1.1
    obtain ⟨y, y1, y2, y3, y4, y5, y6, y7, y8, y9⟩ := (hS.2.2.2.2.2.2.2.1 p hp).xy
    have exy : y = x := by
      rw [← y5, k.2.2.2.2.2]
      exact kXy_pl x1 x2
    rw [exy] at y7
    refine sg_X8_tries_12 hd ⟨fun z => absurd z (by decide), fun _ => ⟨fun _ => ?_, fun z => absurd (nI_le (by omega) (by omega)) z⟩⟩
    refine leaf t l r x.2 1 h1 (by omega) (by omega) (by omega) (pw t r (by omega) hr) (Or.inr rfl) x2 y7 q (fun z => ?_) (fun _ z => ?_)
    · rw [← er]
      exact kRun_w (z.resolve_left (by decide)) (Or.inr rfl)
    · rw [← er]
      exact kRun_h z
  | succ m ih =>
    intro t u x s l r h1 htm hS k sw ts x1 x2 hl hr q er
    have hns5 := hS.1.1
    obtain ⟨y, y1, y2, y3, y4, y5, y6, y7, y8, y9⟩ := (hS.2.2.2.2.2.2.2.1 p hp).xy
    have exy : y = x := by
      rw [← y5, k.2.2.2.2.2]
      exact kXy_pl x1 x2
    rw [exy] at y7
    have k3 := kLA_le wy t
    have hp5 : p < 5 := by omega
    refine sg_X8_tries_12 hd ⟨fun z => absurd z (by decide), fun _ => ⟨fun z => absurd z (ltn (nI_lt (by omega) (by omega))), fun _ => ⟨okO_n (w := 2) hp5 (by decide), ?_⟩⟩⟩
    rw [mOf_2 hp5, y7, mLA_n hw (by omega)]
    refine ⟨fun n0 => ?_, fun z0 => ?_⟩
    · have n0 : ¬ x.2 = 0 := fun e => n0 (by rw [e]; rfl)
      refine leaf t l r x.2 1 h1 hp5 (by omega) (by omega) (pw t r (by omega) hr) (Or.inr rfl) x2 y7 q (fun z => ?_) (fun _ z => ?_)
      · rw [← er]
        exact kRun_w (z.resolve_left (by decide)) (Or.inl n0)
      · rw [← er]
        exact kRun_h z
    · have x0 : x.2 = 0 := (nI_eq (b := 0) (by omega) (by decide)).mp (z0.trans nI_0.symm)
      have hr4 : ∀ k, k ≤ 3 → 4 * r + k < 4 ^ (t + 1) := fun k hk => by rw [Nat.pow_succ]; omega
      have e4 : ∀ j, (4 : Int32) * nI r + nI j = nI (4 * r + j) := fun j => by
        show nI 4 * nI r + nI j = _
        rw [pk_mul, nI_add]
      refine ⟨fun z3 => ?_, fun z3 => ?_⟩
      · have hk3 : kLA wy t = 3 := by
          have := (nI_leI (a := 3) (by decide) (by omega)).mp z3
          omega
        refine sg_X8_tries_71 hd (sp_X8_hourF (d := d - 1) (by omega) hS (by omega) (fun h2 q2 f2 hS2 => ?_))
        rw [e4, nI_1, hk3]
        have lt := kNp_lt (v := v) (p := p) (s := s) (t := t) x1 x2
        refine ih (t + 1) (kHr u) (kNp v p s t x) s l (4 * r + 3) h2 (by omega) hS2 (k.hr hH (by omega) sw.v (by omega) ts (by omega) x1 x2) sw.s ts lt.1 lt.2 (by omega) (hr4 3 (by omega)) ⟨fun a a1 a2 a3 => by rw [q2 a a1 a2 a3, q.1 a a1 a2 a3], fun j hj => by rw [f2 j (by omega) (by omega), q.2 j hj]⟩ ?_
        rw [← er, kRun_3 x0 (by omega)]
      · have hk3 : kLA wy t < 3 := by
          by_cases z : kLA wy t < 3
          · exact z
          · exact absurd (nI_le (a := 3) (by omega) (by omega)) z3
        generalize ek : kLA wy t = kn at hk3 k3 ⊢
        obtain ⟨t', mm, wy', ht', hm', hwy, w1, w2, w3, w4, w5, w6, w7⟩ := hS.2.2.2.2.2.2.2.2.1 (3 * p + kn) (by omega)
        have g1 : h1 89 1 = nI (H + t) := hS.2.1.2.2
        have g13 : v 0 13 + nI t = nI (H + t) := by rw [hH, nI_add]
        rw [ix3, k3d hp5 hk3, mIt_3 (by omega), mOf_2 hp5, ← w7, y7, g1]
        refine ⟨⟨okI_n (w := 3) (by omega) (by decide), okO_n (w := 2) hp5 (by decide)⟩, okI_n (w := 3) (by omega) (by decide), fun h8 e8 => ?_⟩
        have em : kMa v p s t x kn ↔ (u 8 (3 * p + kn) = -1 ∧ kDay (nI (H + t)) ∧ ¬ nI x.2 = 1) := by
          unfold kMa
          rw [g13, k.2.2.2.2.1 kn hk3]
          by_cases c : s kn = -1
          · rw [if_pos c]
            exact ⟨fun z => z.2, fun z => ⟨c, z⟩⟩
          · obtain ⟨τ, hτ, eτ⟩ := (sw kn hk3).resolve_left c
            rw [if_neg c, hH, eτ, nI_add]
            exact ⟨fun z => absurd z.1 (nI_m1 (by omega)), fun z => absurd z.1 (nI_m1 (by omega))⟩
        rw [mLo_n (by omega), g1] at e8
        have g8 : h8 89 = upd (h1 89) (90 + 4 * (3 * p + kn)) (nI (H + t)) := by rw [e8, kU_eq]
        have hS8 : kSRn (kLo u (3 * p + kn)) (h8 89) ns (H + t) f w := hS.lo (by omega) kVEq.rf g8
        have q8 : kTf h h8 := ⟨fun a a1 a2 a3 => by rw [e8, kU_ne a1, q.1 a a1 a2 a3], fun j hj => by rw [g8, pk_un (by omega), q.2 j hj]⟩
        refine sg_X8_tries_71 hd (sp_X8_hourF (d := d - 1) (by omega) hS8 (by omega) (fun h2 q2 f2 hS2 => ?_))
        have q22 : kTf h h2 := ⟨fun a a1 a2 a3 => by rw [q2 a a1 a2 a3, q8.1 a a1 a2 a3], fun j hj => by rw [f2 j (by omega) (by omega), q8.2 j hj]⟩
        rw [e4, nI_1, nI_1]
        by_cases hm : kMa v p s t x kn
        · rw [kb_t (em.mp hm)]
          have lt := kNp_lt (v := v) (p := p) (s := upd s kn (nI t)) (t := t) x1 x2
          have ts2 : kTs v p (upd s kn (nI t)) := fun j hj z => by
            by_cases e : j = kn
            · rw [e]
              exact hm.2.1
            · rw [pk_un e] at z
              exact ts j hj z
          refine ih (t + 1) (kHr (kLo u (3 * p + kn))) (kNp v p (upd s kn (nI t)) t x) (upd s kn (nI t)) (l + 1) (4 * r + kn) h2 (by omega) hS2 ((k.lo hk3 (by omega)).hr hH (by omega) sw.u.v1 (by omega) ts2 (by omega) x1 x2) sw.u ts2 lt.1 lt.2 (by omega) (hr4 kn (by omega)) q22 ?_
          rw [← er, kRun_k (w := kLA wy) x0 (by rw [ek]; exact hk3) (by rw [ek]; exact hm), ek]
        · rw [kb_f (fun z => hm (em.mpr z))]
          obtain ⟨y', b1, b2, b3, b4, b5, b6, b7, b8, b9⟩ := (hS2.2.2.2.2.2.2.2.1 p hp).xy
          refine sg_X8_tries_12 hd ⟨fun _ => ?_, fun z => absurd rfl z⟩
          refine leaf (t + 1) (l + 1) (4 * r + kn) y'.2 0 h2 hp5 (by omega) (by omega) (pw (t + 1) _ (by omega) (hr4 kn (by omega))) (Or.inl rfl) b2 b7 q22 (fun _ => ?_) (fun z => absurd z (by decide))
          rw [← er]
          exact kRun_x (w := kLA wy) x0 (by rw [ek]; exact hk3) (by rw [ek]; exact hm)
def at_X8_findSoonest_22 (G : kG) (d : Nat) (Q : Int32 → kM → Prop)  (v1 : Int32) (v2 : Int32) (v3 : Int32) (h : kM) : Prop := Wp G d m_X8_findSoonest (kEo G d m_X8_findSoonest Q) 22 [.ref 88, .int v1, .int v2, .int v3] [] h
theorem sg_X8_findSoonest_0 {G : kG} {d : Nat} {Q : Int32 → kM → Prop}  {a1 : Int32} {a2 : Int32} {h : kM} (hd : 9 ≤ d)  (H :
    ∀ h1 : kM, h1 = kU h 88 13 (-1 : Int32) →
    ∀ h2 : kM, h2 = kU h1 88 14 (0 : Int32) →
    ∀ h3 : kM, h3 = kU h2 88 15 (0 : Int32) →
    ∀ h4 : kM, h4 = kCp h3 89 92 0 0 147 →
    at_X8_findSoonest_22 G d Q a1 a2 (0 : Int32) h4) : Wp G d m_X8_findSoonest (kEo G d m_X8_findSoonest Q) 0 [.ref 88, .int a1, .int a2, .null] [] h := by
  refine wp_aload_n 1 dX8_findSoonest_0 rfl rfl ?_
  refine wp_iconst (-1 : Int32) 2 dX8_findSoonest_1 kiconst_m1 rfl ?_
  refine wp_putI 5 dX8_findSoonest_2 rfl fl_X8_209 fin_8_13 kd_88 rfl ?_
  refine wp_nm (fun h1 eh1 => ?_)
  replace H := H h1 eh1
  refine wp_aload_n 6 dX8_findSoonest_5 rfl rfl ?_
  refine wp_iconst (0 : Int32) 7 dX8_findSoonest_6 kiconst_0 rfl ?_
  refine wp_putI 10 dX8_findSoonest_7 rfl fl_X8_212 fin_8_14 kd_88 rfl ?_
  refine wp_nm (fun h2 eh2 => ?_)
  replace H := H h2 eh2
  refine wp_aload_n 11 dX8_findSoonest_10 rfl rfl ?_
  refine wp_iconst (0 : Int32) 12 dX8_findSoonest_11 kiconst_0 rfl ?_
  refine wp_putI 15 dX8_findSoonest_12 rfl fl_X8_215 fin_8_15 kd_88 rfl ?_
  refine wp_nm (fun h3 eh3 => ?_)
  replace H := H h3 eh3
  refine wp_aload_n 16 dX8_findSoonest_15 rfl rfl ?_
  refine wp_iconst (0 : Int32) 17 dX8_findSoonest_16 kiconst_0 rfl ?_
  refine wp_cV (d - 1) 1 [.int (0 : Int32)] [] 20 dX8_findSoonest_17 rfl (lk_X8_200 rfl) (by omega) kd_88 rfl rfl rfl (Nat.le_of_ble_eq_true rfl) (sp_X8_layDown (by omega)  (fun h4 eh4 => ?_))
  replace H := H h4 eh4
  refine wp_iconst (0 : Int32) 21 dX8_findSoonest_20 kiconst_0 rfl ?_
  refine wp_istore_n 22 dX8_findSoonest_21 rfl (Nat.le_of_ble_eq_true rfl) rfl ?_
  exact H

theorem cg_X8_findSoonest {G : kG} {d : Nat} {Q : Int32 → kM → Prop}  {a1 : Int32} {a2 : Int32} {h : kM} (hd : 9 ≤ d)  (H :
    ∀ h1 : kM, h1 = kU h 88 13 (-1 : Int32) →
    ∀ h2 : kM, h2 = kU h1 88 14 (0 : Int32) →
    ∀ h3 : kM, h3 = kU h2 88 15 (0 : Int32) →
    ∀ h4 : kM, h4 = kCp h3 89 92 0 0 147 →
    at_X8_findSoonest_22 G d Q a1 a2 (0 : Int32) h4) : Cal G d m_X8_findSoonest [.ref 88, .int a1, .int a2] h Q :=
  Cal.of [.ref 88, .int a1, .int a2, .null] (by decide +kernel) (Nat.le_of_ble_eq_true rfl) rfl (sg_X8_findSoonest_0 hd  H)

theorem sg_X8_findSoonest_22 {G : kG} {d : Nat} {Q : Int32 → kM → Prop}  {v1 : Int32} {v2 : Int32} {v3 : Int32} {h : kM} (hd : 9 ≤ d)  (H :
    (((1728 : Int32) ≤ v3 →
      Q 0 h
    ) ∧ (¬ ((1728 : Int32) ≤ v3) →
      (((kb (mIsW v3)) = 0 →
        at_X8_findSoonest_22 G d Q v1 v2 (v3 + (1 : Int32)) h
      ) ∧ (¬ ((kb (mIsW v3)) = 0) →
        Cal G (d - 1) m_X8_tries [.ref 88, .int v1, .int v3, .int v2] h (fun x3 h4 =>
          ∀ h5 : kM, h5 = kCp h4 92 89 0 0 147 →
          at_X8_findSoonest_22 G d Q v1 v2 (v3 + (1 : Int32)) h5
        )
      ))
    ))) : at_X8_findSoonest_22 G d Q v1 v2 v3 h := by
  show Wp G d m_X8_findSoonest (kEo G d m_X8_findSoonest Q) 22 [.ref 88, .int v1, .int v2, .int v3] [] h
  refine wp_iload_n 23 dX8_findSoonest_22 rfl rfl ?_
  refine wp_sipush (1728 : Int32) 26 dX8_findSoonest_23 ksipush_1728 rfl ?_
  refine wp_icmp_ge 54 29 dX8_findSoonest_26 rfl rfl ⟨fun c1 => ?_, fun c1 => ?_⟩
  · replace H := H.1 c1
    exact wp_retv dX8_findSoonest_54 rfl H
  · replace H := H.2 c1
    refine wp_iload_n 30 dX8_findSoonest_29 rfl rfl ?_
    refine wp_cS (d - 1) 1 [.int v3] [] 33 dX8_findSoonest_30 rfl (lk_X8_218 rfl) (by omega) rfl rfl (Nat.le_of_ble_eq_true rfl) (sp_X8_isWay (by omega)  ?_)
    refine wp_if_eq 48 36 dX8_findSoonest_33 rfl rfl ⟨fun c2 => ?_, fun c2 => ?_⟩
    · replace H := H.1 c2
      refine wp_iinc (1 : Int32) 51 dX8_findSoonest_48 rfl rfl kiconst_1 (Nat.le_of_ble_eq_true rfl) rfl ?_
      refine wp_goto 22 dX8_findSoonest_51 rfl ?_
      exact H
    · replace H := H.2 c2
      refine wp_aload_n 37 dX8_findSoonest_36 rfl rfl ?_
      refine wp_iload_n 38 dX8_findSoonest_37 rfl rfl ?_
      refine wp_iload_n 39 dX8_findSoonest_38 rfl rfl ?_
      refine wp_iload_n 40 dX8_findSoonest_39 rfl rfl ?_
      refine wp_cV (d - 1) 3 [.int v1, .int v3, .int v2] [] 43 dX8_findSoonest_40 rfl (lk_X8_221 rfl) (by omega) kd_88 rfl rfl rfl (Nat.le_of_ble_eq_true rfl) (H.mono (fun x3 h4 H => ?_))
      refine wp_aload_n 44 dX8_findSoonest_43 rfl rfl ?_
      refine wp_iconst (0 : Int32) 45 dX8_findSoonest_44 kiconst_0 rfl ?_
      refine wp_cV (d - 1) 1 [.int (0 : Int32)] [] 48 dX8_findSoonest_45 rfl (lk_X8_203 rfl) (by omega) kd_88 rfl rfl rfl (Nat.le_of_ble_eq_true rfl) (sp_X8_layBack (by omega)  (fun h5 eh5 => ?_))
      replace H := H h5 eh5
      refine wp_iinc (1 : Int32) 51 dX8_findSoonest_48 rfl rfl kiconst_1 (Nat.le_of_ble_eq_true rfl) rfl ?_
      refine wp_goto 22 dX8_findSoonest_51 rfl ?_
      exact H

theorem kTk.start {v : kM} {p : Nat} {x : Nat × Nat} (e : v 3 p = kPl x) : kTk v v p 0 (fun _ => -1) x := ⟨fun _ _ _ _ _ _ => rfl, fun _ _ => rfl, by rw [nI_0, Int32.add_zero], fun _ _ => rfl, fun _ _ => rfl, e⟩
theorem sp_X8_findSoonest (hd : 9 ≤ d) {v : kM} {p n H f w ns : Nat} (hS : kSRn v (h 89) ns H f w) (hp : p < ns) (hn : n ≤ 10) (hH : H ≤ 9999) (kk : ∀ h1 b, (∀ a, a ≠ 88 → a ≠ 92 → a ≠ 95 → a ≠ 96 → h1 a = h a) → (∀ s, s ≠ 13 → s ≠ 14 → s ≠ 15 → h1 88 s = h 88 s) → kMb h1 b → (∀ B, b = some B → kOut v p n 0 (kSh v p 0) (fun _ => -1) 0 0 B.1 B.2.1 B.2.2) → (∀ T L R, kOut v p n 0 (kSh v p 0) (fun _ => -1) 0 0 T L R → ∃ B, b = some B ∧ ¬ kLt T L R B.1 B.2.1 B.2.2) → Q 0 h1) : Cal G d m_X8_findSoonest [.ref 88, .int (nI p), .int (nI n)] h Q := by
  have hns := hS.1.1
  have l := kSh_pl hS hp (i := 0) (by omega)
  refine cg_X8_findSoonest hd (fun h1 e1 h2 e2 h3 e3 h4 e4 => ?_)
  have o4 : ∀ a, a ≠ 88 → a ≠ 92 → h4 a = h a := fun a a1 a2 => by rw [e4, kCp_ne a2, e3, kU_ne a1, e2, kU_ne a1, e1, kU_ne a1]
  have c88 : h4 88 = upd (upd (upd (h 88) 13 (-1)) 14 0) 15 0 := by rw [e4, kCp_ne (by decide), e3, kU_eq, e2, kU_eq, e1, kU_eq]
  have g4 : h4 89 = h 89 := o4 89 (by decide) (by decide)
  have c92 : ∀ j, j < 147 → h4 92 j = h 89 j := fun j hj => by
    have g3 : h3 89 = h 89 := by rw [e3, kU_ne (by decide), e2, kU_ne (by decide), e1, kU_ne (by decide)]
    rw [e4, kCp_eq, cpy0, if_pos hj, g3]
  have lp : ∀ (m W : Nat) (h5 : kM) (b : Option (Nat × Nat × Nat)), W + m = 1728 → h5 89 = h 89 → (∀ a, a ≠ 88 → a ≠ 89 → a ≠ 95 → a ≠ 96 → h5 a = h4 a) → (∀ s, s ≠ 13 → s ≠ 14 → s ≠ 15 → h5 88 s = h 88 s) → kMb h5 b → (∀ B, b = some B → kOut v p n 0 (kSh v p 0) (fun _ => -1) 0 0 B.1 B.2.1 B.2.2) → (∀ wy, wy < W → mIsW (nI wy) → ∀ q, kRun v p (kLA wy) n 0 (kSh v p 0) (fun _ => -1) 0 0 = some q → ∃ B, b = some B ∧ ¬ kLt q.1 q.2.1 q.2.2 B.1 B.2.1 B.2.2) → at_X8_findSoonest_22 G d Q (nI p) (nI n) (nI W) h5 := by
    intro m
    induction m with
    | zero =>
      intro W h5 b hW g5 o5 s5 B i1 i2
      have hW2 : W = 1728 := by omega
      subst hW2
      refine sg_X8_findSoonest_22 hd ⟨fun _ => ?_, fun z => absurd (nI_le (Nat.le_refl 1728) (by decide)) z⟩
      refine kk h5 b (fun a a1 a2 a3 a4 => ?_) s5 B i1 (fun T L R q => ?_)
      · by_cases e : a = 89
        · subst e
          exact g5
        · rw [o5 a a1 e a3 a4, o4 a a1 a2]
      · obtain ⟨wy, hw, hi, hr⟩ := kOut_way hn q
        exact i2 wy hw hi (T, L, R) hr
    | succ m ih =>
      intro W h5 b hW g5 o5 s5 B i1 i2
      refine sg_X8_findSoonest_22 hd ⟨fun z => absurd z (ltn (nI_lt (b := 1728) (by omega) (by decide))), fun _ => ?_⟩
      rw [nI_1]
      refine ⟨fun z => ih (W + 1) h5 b (by omega) g5 o5 s5 B i1 (fun wy hw hi => ?_), fun z => ?_⟩
      · by_cases e : wy = W
        · rw [e] at hi
          exact absurd hi (kb_0.mp z)
        · exact i2 wy (by omega) hi
      · refine cg_X8_tries (by omega) ?_
        refine lp_tries (d := d - 1) (h := h5) (v := v) (H := H) (f := f) (w := w) (ns := ns) (wy := W) (b := b) (ro := kRun v p (kLA W) n 0 (kSh v p 0) (fun _ => -1) 0 0) (by omega) hS.2.1.2.1 hH hS.ns hp hn (by omega) B (fun h6 b' o6 r6 s6 B6 U6 h7 e7 => ?_) n 0 v (kSh v p 0) (fun _ => -1) 0 0 h5 (by omega) (hS.congr2 g5) (kTk.start l.1) (fun _ _ => Or.inl rfl) (fun _ _ z => absurd rfl z) l.2.1 l.2.2 (Nat.le_refl 0) (by decide) ⟨fun _ _ _ _ => rfl, fun _ _ => rfl⟩ rfl
        have g7 : h7 89 = h 89 := by
          rw [e7, kCp_eq]
          funext j
          rw [cpy0]
          by_cases hj : j < 147
          · rw [if_pos hj, o6 92 (by decide) (by decide) (by decide) (by decide), o5 92 (by decide) (by decide) (by decide) (by decide)]
            exact c92 j hj
          · rw [if_neg hj, r6 j (by omega), g5]
        refine ih (W + 1) h7 b' (by omega) g7 (fun a a1 a2 a3 a4 => by rw [e7, kCp_ne a2, o6 a a1 a2 a3 a4, o5 a a1 a2 a3 a4]) (fun s s1 s2 s3 => by rw [e7, kCp_ne (by decide), s6 s s1 s2 s3, s5 s s1 s2 s3]) ?_ (fun B' eB => ?_) (fun wy hw hi q hq => ?_)
        · unfold kMb at B6 ⊢
          rw [e7, kCp_ne (by decide)]
          exact B6
        · cases er : kRun v p (kLA W) n 0 (kSh v p 0) (fun _ => -1) 0 0 with
          | none => exact i1 B' (by rw [← U6.1 er]; exact eB)
          | some o =>
            rcases (U6.2.1 o er).1 with z2 | z2
            · exact i1 B' (by rw [← z2]; exact eB)
            · rw [z2] at eB
              cases eB
              exact kRun_out _ _ _ _ _ _ _ _ _ er
        · by_cases e : wy = W
          · subst e
            exact (U6.2.1 q hq).2
          · obtain ⟨B', eB, nB⟩ := i2 wy (by omega) hi q hq
            obtain ⟨B'', eB2, nB2⟩ := U6.2.2 B' eB
            exact ⟨B'', eB2, kLt_tr nB nB2⟩
  refine lp 1728 0 h4 none (by omega) g4 (fun _ _ _ _ _ => rfl) (fun s s1 s2 s3 => by rw [c88, pk_un s3, pk_un s2, pk_un s1]) ⟨fun _ => ?_, fun B e => (by cases e)⟩ (fun B e => (by cases e)) (fun wy hw => absurd hw (Nat.not_lt_zero wy))
  rw [c88, pk_un (by decide), pk_un (by decide), pk_us]
/-- both have found the same -/
theorem kSame {v : kM} {p n : Nat} {x : Nat × Nat} {b : Nat × Nat × Nat} {b' : Option (Nat × Nat × Nat)} (P : kPo (kOut v p n 0 x (fun _ => -1) 0 0) (n + 1, 0, 0) b) (m1 : ∀ B, b' = some B → kOut v p n 0 x (fun _ => -1) 0 0 B.1 B.2.1 B.2.2) (m2 : ∀ T L R, kOut v p n 0 x (fun _ => -1) 0 0 T L R → ∃ B, b' = some B ∧ ¬ kLt T L R B.1 B.2.1 B.2.2) : (b' = none ∧ b.1 = n + 1) ∨ (b' = some b ∧ b.1 ≤ n) := by
  have bd : ∀ T L R, kOut v p n 0 x (fun _ => -1) 0 0 T L R → T ≤ n := fun T L R q => by
    have := (kOut_b _ _ _ _ _ _ _ _ _ q).2.1
    omega
  cases hb : b' with
  | none =>
    refine Or.inl ⟨rfl, ?_⟩
    rcases P.1 with e | q
    · rw [e]
    · obtain ⟨B, eB, -⟩ := m2 _ _ _ q
      rw [hb] at eB
      cases eB
  | some B =>
    refine Or.inr ?_
    have oB := m1 B hb
    have nB := P.2.1 _ _ _ oB
    have TB := bd _ _ _ oB
    rcases P.1 with e | q
    · exfalso
      rw [e] at nB
      exact nB (Or.inl (by show B.1 < n + 1; omega))
    · obtain ⟨B', eB, nB'⟩ := m2 _ _ _ q
      rw [hb] at eB
      cases eB
      obtain ⟨b1, b2, b3⟩ := b
      obtain ⟨c1, c2, c3⟩ := B
      have nB1 : ¬ kLt c1 c2 c3 b1 b2 b3 := nB
      have nB2 : ¬ kLt b1 b2 b3 c1 c2 c3 := nB'
      unfold kLt at nB1 nB2
      have e1 : c1 = b1 := by omega
      have e2 : c2 = b2 := by omega
      have e3 : c3 = b3 := by omega
      subst e1
      subst e2
      subst e3
      exact ⟨rfl, TB⟩
def at_X8_soonest_62 (G : kG) (d : Nat) (Q : Int32 → kM → Prop)  (v1 : Int32) (v2 : Int32) (v3 : Int32) (v4 : Int32) (v5 : Int32) (h : kM) : Prop := Wp G d m_X8_soonest (kEo G d m_X8_soonest Q) 62 [.ref 88, .int v1, .int v2, .int v3, .int v4, .int v5] [] h
theorem sg_X8_soonest_0 {G : kG} {d : Nat} {Q : Int32 → kM → Prop}  {a1 : Int32} {a2 : Int32} {a3 : Int32} {h : kM} (hd : 10 ≤ d)  (H :
    (((kb (0 ≤ a1 ∧ a1 ≤ h 89 0 - 1)) = 0 →
      (vp_in (1 : Int32) 7) ∧
      ∀ h3 : kM, h3 = kErr h 93 (1 : Int32) →
      Q (-1000000000 - (1 : Int32)) h3
    ) ∧ (¬ ((kb (0 ≤ a1 ∧ a1 ≤ h 89 0 - 1)) = 0) →
      (((kb ((1 : Int32) ≤ a2 ∧ a2 ≤ (10 : Int32))) = 0 →
        (vp_in (1 : Int32) 7) ∧
        ∀ h6 : kM, h6 = kErr h 93 (1 : Int32) →
        Q (-1000000000 - (1 : Int32)) h6
      ) ∧ (¬ ((kb ((1 : Int32) ≤ a2 ∧ a2 ≤ (10 : Int32))) = 0) →
        ((¬ (kb ((0 : Int32) ≤ a3 ∧ a3 ≤ (2 : Int32))) = 0 →
          Cal G (d - 1) m_X8_findSoonest [.ref 88, .int a1, .int a2] h (fun x8 h9 =>
            ((¬ (h9 88 13) = (-1 : Int32) →
              at_X8_soonest_62 G d Q a1 a2 a3 (h9 88 15) (1 : Int32) h9
            ) ∧ ((h9 88 13) = (-1 : Int32) →
              (vp_in (2 : Int32) 7) ∧
              ∀ h12 : kM, h12 = kErr h9 93 (2 : Int32) →
              Q (-1000000000 - (2 : Int32)) h12
            ))
          )
        ) ∧ ((kb ((0 : Int32) ≤ a3 ∧ a3 ≤ (2 : Int32))) = 0 →
          (vp_in (1 : Int32) 7) ∧
          ∀ h14 : kM, h14 = kErr h 93 (1 : Int32) →
          Q (-1000000000 - (1 : Int32)) h14
        ))
      ))
    ))) : Wp G d m_X8_soonest (kEo G d m_X8_soonest Q) 0 [.ref 88, .int a1, .int a2, .int a3, .null, .null] [] h := by
  refine wp_aload_n 1 dX8_soonest_0 rfl rfl ?_
  refine wp_iload_n 2 dX8_soonest_1 rfl rfl ?_
  refine wp_cV (d - 1) 1 [.int a1] [] 5 dX8_soonest_2 rfl (lk_X8_54 rfl) (by omega) kd_88 rfl rfl rfl (Nat.le_of_ble_eq_true rfl) (sp_X8_isShip (by omega)  ?_)
  refine wp_if_eq 27 8 dX8_soonest_5 rfl rfl ⟨fun c1 => ?_, fun c1 => ?_⟩
  · replace H := H.1 c1
    refine wp_aload_n 28 dX8_soonest_27 rfl rfl ?_
    refine wp_iconst (1 : Int32) 29 dX8_soonest_28 kiconst_1 rfl ?_
    have c2 := H.1; replace H := H.2
    refine wp_cV (d - 1) 1 [.int (1 : Int32)] [] 32 dX8_soonest_29 rfl (lk_X8_62 rfl) (by omega) kd_88 rfl rfl rfl (Nat.le_of_ble_eq_true rfl) (sp_X8_error (by omega) c2 (fun h3 eh3 => ?_))
    replace H := H h3 eh3
    exact wp_reti dX8_soonest_32 rfl H
  · replace H := H.2 c1
    refine wp_iload_n 9 dX8_soonest_8 rfl rfl ?_
    refine wp_iconst (1 : Int32) 10 dX8_soonest_9 kiconst_1 rfl ?_
    refine wp_bipush (10 : Int32) 12 dX8_soonest_10 kbipush_10 rfl ?_
    refine wp_cS (d - 1) 3 [.int a2, .int (1 : Int32), .int (10 : Int32)] [] 15 dX8_soonest_12 rfl (lk_X8_50 rfl) (by omega) rfl rfl (Nat.le_of_ble_eq_true rfl) (sp_X8_in (by omega)  ?_)
    refine wp_if_eq 27 18 dX8_soonest_15 rfl rfl ⟨fun c4 => ?_, fun c4 => ?_⟩
    · replace H := H.1 c4
      refine wp_aload_n 28 dX8_soonest_27 rfl rfl ?_
      refine wp_iconst (1 : Int32) 29 dX8_soonest_28 kiconst_1 rfl ?_
      have c5 := H.1; replace H := H.2
      refine wp_cV (d - 1) 1 [.int (1 : Int32)] [] 32 dX8_soonest_29 rfl (lk_X8_62 rfl) (by omega) kd_88 rfl rfl rfl (Nat.le_of_ble_eq_true rfl) (sp_X8_error (by omega) c5 (fun h6 eh6 => ?_))
      replace H := H h6 eh6
      exact wp_reti dX8_soonest_32 rfl H
    · replace H := H.2 c4
      refine wp_iload_n 19 dX8_soonest_18 rfl rfl ?_
      refine wp_iconst (0 : Int32) 20 dX8_soonest_19 kiconst_0 rfl ?_
      refine wp_iconst (2 : Int32) 21 dX8_soonest_20 kiconst_2 rfl ?_
      refine wp_cS (d - 1) 3 [.int a3, .int (0 : Int32), .int (2 : Int32)] [] 24 dX8_soonest_21 rfl (lk_X8_50 rfl) (by omega) rfl rfl (Nat.le_of_ble_eq_true rfl) (sp_X8_in (by omega)  ?_)
      refine wp_if_ne 33 27 dX8_soonest_24 rfl rfl ⟨fun c7 => ?_, fun c7 => ?_⟩
      · replace H := H.1 c7
        refine wp_aload_n 34 dX8_soonest_33 rfl rfl ?_
        refine wp_iload_n 35 dX8_soonest_34 rfl rfl ?_
        refine wp_iload_n 36 dX8_soonest_35 rfl rfl ?_
        refine wp_cV (d - 1) 2 [.int a1, .int a2] [] 39 dX8_soonest_36 rfl (lk_X8_224 rfl) (by omega) kd_88 rfl rfl rfl (Nat.le_of_ble_eq_true rfl) (H.mono (fun x8 h9 H => ?_))
        refine wp_aload_n 40 dX8_soonest_39 rfl rfl ?_
        refine wp_getI 43 dX8_soonest_40 rfl fl_X8_209 kd_88 rfl ?_
        refine wp_iconst (-1 : Int32) 44 dX8_soonest_43 kiconst_m1 rfl ?_
        refine wp_icmp_ne 53 47 dX8_soonest_44 rfl rfl ⟨fun c10 => ?_, fun c10 => ?_⟩
        · replace H := H.1 c10
          refine wp_aload_n 54 dX8_soonest_53 rfl rfl ?_
          refine wp_getI 57 dX8_soonest_54 rfl fl_X8_215 kd_88 rfl ?_
          refine wp_istore 59 dX8_soonest_57 rfl (Nat.le_of_ble_eq_true rfl) rfl ?_
          refine wp_iconst (1 : Int32) 60 dX8_soonest_59 kiconst_1 rfl ?_
          refine wp_istore 62 dX8_soonest_60 rfl (Nat.le_of_ble_eq_true rfl) rfl ?_
          exact H
        · replace H := H.2 c10
          refine wp_aload_n 48 dX8_soonest_47 rfl rfl ?_
          refine wp_iconst (2 : Int32) 49 dX8_soonest_48 kiconst_2 rfl ?_
          have c11 := H.1; replace H := H.2
          refine wp_cV (d - 1) 1 [.int (2 : Int32)] [] 52 dX8_soonest_49 rfl (lk_X8_62 rfl) (by omega) kd_88 rfl rfl rfl (Nat.le_of_ble_eq_true rfl) (sp_X8_error (by omega) c11 (fun h12 eh12 => ?_))
          replace H := H h12 eh12
          exact wp_reti dX8_soonest_52 rfl H
      · replace H := H.2 c7
        refine wp_aload_n 28 dX8_soonest_27 rfl rfl ?_
        refine wp_iconst (1 : Int32) 29 dX8_soonest_28 kiconst_1 rfl ?_
        have c13 := H.1; replace H := H.2
        refine wp_cV (d - 1) 1 [.int (1 : Int32)] [] 32 dX8_soonest_29 rfl (lk_X8_62 rfl) (by omega) kd_88 rfl rfl rfl (Nat.le_of_ble_eq_true rfl) (sp_X8_error (by omega) c13 (fun h14 eh14 => ?_))
        replace H := H h14 eh14
        exact wp_reti dX8_soonest_32 rfl H

theorem cg_X8_soonest {G : kG} {d : Nat} {Q : Int32 → kM → Prop}  {a1 : Int32} {a2 : Int32} {a3 : Int32} {h : kM} (hd : 10 ≤ d)  (H :
    (((kb (0 ≤ a1 ∧ a1 ≤ h 89 0 - 1)) = 0 →
      (vp_in (1 : Int32) 7) ∧
      ∀ h3 : kM, h3 = kErr h 93 (1 : Int32) →
      Q (-1000000000 - (1 : Int32)) h3
    ) ∧ (¬ ((kb (0 ≤ a1 ∧ a1 ≤ h 89 0 - 1)) = 0) →
      (((kb ((1 : Int32) ≤ a2 ∧ a2 ≤ (10 : Int32))) = 0 →
        (vp_in (1 : Int32) 7) ∧
        ∀ h6 : kM, h6 = kErr h 93 (1 : Int32) →
        Q (-1000000000 - (1 : Int32)) h6
      ) ∧ (¬ ((kb ((1 : Int32) ≤ a2 ∧ a2 ≤ (10 : Int32))) = 0) →
        ((¬ (kb ((0 : Int32) ≤ a3 ∧ a3 ≤ (2 : Int32))) = 0 →
          Cal G (d - 1) m_X8_findSoonest [.ref 88, .int a1, .int a2] h (fun x8 h9 =>
            ((¬ (h9 88 13) = (-1 : Int32) →
              at_X8_soonest_62 G d Q a1 a2 a3 (h9 88 15) (1 : Int32) h9
            ) ∧ ((h9 88 13) = (-1 : Int32) →
              (vp_in (2 : Int32) 7) ∧
              ∀ h12 : kM, h12 = kErr h9 93 (2 : Int32) →
              Q (-1000000000 - (2 : Int32)) h12
            ))
          )
        ) ∧ ((kb ((0 : Int32) ≤ a3 ∧ a3 ≤ (2 : Int32))) = 0 →
          (vp_in (1 : Int32) 7) ∧
          ∀ h14 : kM, h14 = kErr h 93 (1 : Int32) →
          Q (-1000000000 - (1 : Int32)) h14
        ))
      ))
    ))) : Cal G d m_X8_soonest [.ref 88, .int a1, .int a2, .int a3] h Q :=
  Cal.of [.ref 88, .int a1, .int a2, .int a3, .null, .null] (by decide +kernel) (Nat.le_of_ble_eq_true rfl) rfl (sg_X8_soonest_0 hd  H)

theorem sg_X8_soonest_62 {G : kG} {d : Nat} {Q : Int32 → kM → Prop}  {v1 : Int32} {v2 : Int32} {v3 : Int32} {v4 : Int32} {v5 : Int32} {h : kM} (hd : 10 ≤ d)  (H :
    (((h 88 13) ≤ v5 →
      ((¬ v3 = 0 →
        ((¬ v3 = (1 : Int32) →
          Q (h 88 14) h
        ) ∧ (v3 = (1 : Int32) →
          ((¬ (h 88 13) = 0 →
            Q v4 h
          ) ∧ ((h 88 13) = 0 →
            Q (3 : Int32) h
          ))
        ))
      ) ∧ (v3 = 0 →
        Q (h 88 13) h
      ))
    ) ∧ (¬ ((h 88 13) ≤ v5) →
      at_X8_soonest_62 G d Q v1 v2 v3 (v4 / (4 : Int32)) (v5 + (1 : Int32)) h
    ))) : at_X8_soonest_62 G d Q v1 v2 v3 v4 v5 h := by
  show Wp G d m_X8_soonest (kEo G d m_X8_soonest Q) 62 [.ref 88, .int v1, .int v2, .int v3, .int v4, .int v5] [] h
  refine wp_iload 64 dX8_soonest_62 rfl rfl ?_
  refine wp_aload_n 65 dX8_soonest_64 rfl rfl ?_
  refine wp_getI 68 dX8_soonest_65 rfl fl_X8_209 kd_88 rfl ?_
  refine wp_icmp_ge 83 71 dX8_soonest_68 rfl rfl ⟨fun c1 => ?_, fun c1 => ?_⟩
  · replace H := H.1 c1
    refine wp_iload_n 84 dX8_soonest_83 rfl rfl ?_
    refine wp_if_ne 94 87 dX8_soonest_84 rfl rfl ⟨fun c2 => ?_, fun c2 => ?_⟩
    · replace H := H.1 c2
      refine wp_iload_n 95 dX8_soonest_94 rfl rfl ?_
      refine wp_iconst (1 : Int32) 96 dX8_soonest_95 kiconst_1 rfl ?_
      refine wp_icmp_ne 115 99 dX8_soonest_96 rfl rfl ⟨fun c3 => ?_, fun c3 => ?_⟩
      · replace H := H.1 c3
        refine wp_aload_n 116 dX8_soonest_115 rfl rfl ?_
        refine wp_getI 119 dX8_soonest_116 rfl fl_X8_212 kd_88 rfl ?_
        exact wp_reti dX8_soonest_119 rfl H
      · replace H := H.2 c3
        refine wp_aload_n 100 dX8_soonest_99 rfl rfl ?_
        refine wp_getI 103 dX8_soonest_100 rfl fl_X8_209 kd_88 rfl ?_
        refine wp_if_ne 110 106 dX8_soonest_103 rfl rfl ⟨fun c4 => ?_, fun c4 => ?_⟩
        · replace H := H.1 c4
          refine wp_iload 112 dX8_soonest_110 rfl rfl ?_
          refine wp_goto 119 dX8_soonest_112 rfl ?_
          exact wp_reti dX8_soonest_119 rfl H
        · replace H := H.2 c4
          refine wp_iconst (3 : Int32) 107 dX8_soonest_106 kiconst_3 rfl ?_
          refine wp_goto 119 dX8_soonest_107 rfl ?_
          exact wp_reti dX8_soonest_119 rfl H
    · replace H := H.2 c2
      refine wp_aload_n 88 dX8_soonest_87 rfl rfl ?_
      refine wp_getI 91 dX8_soonest_88 rfl fl_X8_209 kd_88 rfl ?_
      refine wp_goto 119 dX8_soonest_91 rfl ?_
      exact wp_reti dX8_soonest_119 rfl H
  · replace H := H.2 c1
    refine wp_iload 73 dX8_soonest_71 rfl rfl ?_
    refine wp_iconst (4 : Int32) 74 dX8_soonest_73 kiconst_4 rfl ?_
    refine wp_idiv 75 dX8_soonest_74 (by decide) rfl ?_
    refine wp_istore 77 dX8_soonest_75 rfl (Nat.le_of_ble_eq_true rfl) rfl ?_
    refine wp_iinc (1 : Int32) 80 dX8_soonest_77 rfl rfl kiconst_1 (Nat.le_of_ble_eq_true rfl) rfl ?_
    refine wp_goto 62 dX8_soonest_80 rfl ?_
    exact H

theorem sg_X8_hoursOf_0 {G : kG} {d : Nat} {Q : Int32 → kM → Prop}  {a1 : Int32} {a2 : Int32} {h : kM} (hd : 10 ≤ d)  (H :
    Cal G (d - 1) m_X8_findSoonest [.ref 88, .int a1, .int a2] h (fun x1 h2 =>
      ((¬ (h2 88 13) = (-1 : Int32) →
        Q (h2 88 13) h2
      ) ∧ ((h2 88 13) = (-1 : Int32) →
        Q (a2 + (1 : Int32)) h2
      ))
    )) : Wp G d m_X8_hoursOf (kEo G d m_X8_hoursOf Q) 0 [.ref 88, .int a1, .int a2] [] h := by
  refine wp_aload_n 1 dX8_hoursOf_0 rfl rfl ?_
  refine wp_iload_n 2 dX8_hoursOf_1 rfl rfl ?_
  refine wp_iload_n 3 dX8_hoursOf_2 rfl rfl ?_
  refine wp_cV (d - 1) 2 [.int a1, .int a2] [] 6 dX8_hoursOf_3 rfl (lk_X8_224 rfl) (by omega) kd_88 rfl rfl rfl (Nat.le_of_ble_eq_true rfl) (H.mono (fun x1 h2 H => ?_))
  refine wp_aload_n 7 dX8_hoursOf_6 rfl rfl ?_
  refine wp_getI 10 dX8_hoursOf_7 rfl fl_X8_209 kd_88 rfl ?_
  refine wp_iconst (-1 : Int32) 11 dX8_hoursOf_10 kiconst_m1 rfl ?_
  refine wp_icmp_ne 20 14 dX8_hoursOf_11 rfl rfl ⟨fun c3 => ?_, fun c3 => ?_⟩
  · replace H := H.1 c3
    refine wp_aload_n 21 dX8_hoursOf_20 rfl rfl ?_
    refine wp_getI 24 dX8_hoursOf_21 rfl fl_X8_209 kd_88 rfl ?_
    exact wp_reti dX8_hoursOf_24 rfl H
  · replace H := H.2 c3
    refine wp_iload_n 15 dX8_hoursOf_14 rfl rfl ?_
    refine wp_iconst (1 : Int32) 16 dX8_hoursOf_15 kiconst_1 rfl ?_
    refine wp_iadd 17 dX8_hoursOf_16 rfl ?_
    refine wp_goto 24 dX8_hoursOf_17 rfl ?_
    exact wp_reti dX8_hoursOf_24 rfl H

theorem cg_X8_hoursOf {G : kG} {d : Nat} {Q : Int32 → kM → Prop}  {a1 : Int32} {a2 : Int32} {h : kM} (hd : 10 ≤ d)  (H :
    Cal G (d - 1) m_X8_findSoonest [.ref 88, .int a1, .int a2] h (fun x1 h2 =>
      ((¬ (h2 88 13) = (-1 : Int32) →
        Q (h2 88 13) h2
      ) ∧ ((h2 88 13) = (-1 : Int32) →
        Q (a2 + (1 : Int32)) h2
      ))
    )) : Cal G d m_X8_hoursOf [.ref 88, .int a1, .int a2] h Q :=
  Cal.of [.ref 88, .int a1, .int a2] (by decide +kernel) (Nat.le_of_ble_eq_true rfl) rfl (sg_X8_hoursOf_0 hd  H)

theorem sg_X8_race_0 {G : kG} {d : Nat} {Q : Int32 → kM → Prop}  {a1 : Int32} {a2 : Int32} {a3 : Int32} {h : kM} (hd : 11 ≤ d)  (H :
    (((kb (0 ≤ a1 ∧ a1 ≤ h 89 0 - 1)) = 0 →
      (vp_in (1 : Int32) 7) ∧
      ∀ h3 : kM, h3 = kErr h 93 (1 : Int32) →
      Q (-1000000000 - (1 : Int32)) h3
    ) ∧ (¬ ((kb (0 ≤ a1 ∧ a1 ≤ h 89 0 - 1)) = 0) →
      (((kb (0 ≤ a2 ∧ a2 ≤ h 89 0 - 1)) = 0 →
        (vp_in (1 : Int32) 7) ∧
        ∀ h6 : kM, h6 = kErr h 93 (1 : Int32) →
        Q (-1000000000 - (1 : Int32)) h6
      ) ∧ (¬ ((kb (0 ≤ a2 ∧ a2 ≤ h 89 0 - 1)) = 0) →
        ((a1 = a2 →
          (vp_in (1 : Int32) 7) ∧
          ∀ h9 : kM, h9 = kErr h 93 (1 : Int32) →
          Q (-1000000000 - (1 : Int32)) h9
        ) ∧ (¬ (a1 = a2) →
          ((¬ (kb ((1 : Int32) ≤ a3 ∧ a3 ≤ (10 : Int32))) = 0 →
            Cal G (d - 1) m_X8_hoursOf [.ref 88, .int a1, .int a3] h (fun x11 h12 =>
              Cal G (d - 1) m_X8_hoursOf [.ref 88, .int a2, .int a3] h12 (fun x13 h14 =>
                Q (x13 - x11) h14
              )
            )
          ) ∧ ((kb ((1 : Int32) ≤ a3 ∧ a3 ≤ (10 : Int32))) = 0 →
            (vp_in (1 : Int32) 7) ∧
            ∀ h16 : kM, h16 = kErr h 93 (1 : Int32) →
            Q (-1000000000 - (1 : Int32)) h16
          ))
        ))
      ))
    ))) : Wp G d m_X8_race (kEo G d m_X8_race Q) 0 [.ref 88, .int a1, .int a2, .int a3, .null] [] h := by
  refine wp_aload_n 1 dX8_race_0 rfl rfl ?_
  refine wp_iload_n 2 dX8_race_1 rfl rfl ?_
  refine wp_cV (d - 1) 1 [.int a1] [] 5 dX8_race_2 rfl (lk_X8_54 rfl) (by omega) kd_88 rfl rfl rfl (Nat.le_of_ble_eq_true rfl) (sp_X8_isShip (by omega)  ?_)
  refine wp_if_eq 31 8 dX8_race_5 rfl rfl ⟨fun c1 => ?_, fun c1 => ?_⟩
  · replace H := H.1 c1
    refine wp_aload_n 32 dX8_race_31 rfl rfl ?_
    refine wp_iconst (1 : Int32) 33 dX8_race_32 kiconst_1 rfl ?_
    have c2 := H.1; replace H := H.2
    refine wp_cV (d - 1) 1 [.int (1 : Int32)] [] 36 dX8_race_33 rfl (lk_X8_62 rfl) (by omega) kd_88 rfl rfl rfl (Nat.le_of_ble_eq_true rfl) (sp_X8_error (by omega) c2 (fun h3 eh3 => ?_))
    replace H := H h3 eh3
    exact wp_reti dX8_race_36 rfl H
  · replace H := H.2 c1
    refine wp_aload_n 9 dX8_race_8 rfl rfl ?_
    refine wp_iload_n 10 dX8_race_9 rfl rfl ?_
    refine wp_cV (d - 1) 1 [.int a2] [] 13 dX8_race_10 rfl (lk_X8_54 rfl) (by omega) kd_88 rfl rfl rfl (Nat.le_of_ble_eq_true rfl) (sp_X8_isShip (by omega)  ?_)
    refine wp_if_eq 31 16 dX8_race_13 rfl rfl ⟨fun c4 => ?_, fun c4 => ?_⟩
    · replace H := H.1 c4
      refine wp_aload_n 32 dX8_race_31 rfl rfl ?_
      refine wp_iconst (1 : Int32) 33 dX8_race_32 kiconst_1 rfl ?_
      have c5 := H.1; replace H := H.2
      refine wp_cV (d - 1) 1 [.int (1 : Int32)] [] 36 dX8_race_33 rfl (lk_X8_62 rfl) (by omega) kd_88 rfl rfl rfl (Nat.le_of_ble_eq_true rfl) (sp_X8_error (by omega) c5 (fun h6 eh6 => ?_))
      replace H := H h6 eh6
      exact wp_reti dX8_race_36 rfl H
    · replace H := H.2 c4
      refine wp_iload_n 17 dX8_race_16 rfl rfl ?_
      refine wp_iload_n 18 dX8_race_17 rfl rfl ?_
      refine wp_icmp_eq 31 21 dX8_race_18 rfl rfl ⟨fun c7 => ?_, fun c7 => ?_⟩
      · replace H := H.1 c7
        refine wp_aload_n 32 dX8_race_31 rfl rfl ?_
        refine wp_iconst (1 : Int32) 33 dX8_race_32 kiconst_1 rfl ?_
        have c8 := H.1; replace H := H.2
        refine wp_cV (d - 1) 1 [.int (1 : Int32)] [] 36 dX8_race_33 rfl (lk_X8_62 rfl) (by omega) kd_88 rfl rfl rfl (Nat.le_of_ble_eq_true rfl) (sp_X8_error (by omega) c8 (fun h9 eh9 => ?_))
        replace H := H h9 eh9
        exact wp_reti dX8_race_36 rfl H
      · replace H := H.2 c7
        refine wp_iload_n 22 dX8_race_21 rfl rfl ?_
        refine wp_iconst (1 : Int32) 23 dX8_race_22 kiconst_1 rfl ?_
        refine wp_bipush (10 : Int32) 25 dX8_race_23 kbipush_10 rfl ?_
        refine wp_cS (d - 1) 3 [.int a3, .int (1 : Int32), .int (10 : Int32)] [] 28 dX8_race_25 rfl (lk_X8_50 rfl) (by omega) rfl rfl (Nat.le_of_ble_eq_true rfl) (sp_X8_in (by omega)  ?_)
        refine wp_if_ne 37 31 dX8_race_28 rfl rfl ⟨fun c10 => ?_, fun c10 => ?_⟩
        · replace H := H.1 c10
          refine wp_aload_n 38 dX8_race_37 rfl rfl ?_
          refine wp_iload_n 39 dX8_race_38 rfl rfl ?_
          refine wp_iload_n 40 dX8_race_39 rfl rfl ?_
          refine wp_cV (d - 1) 2 [.int a1, .int a3] [] 43 dX8_race_40 rfl (lk_X8_244 rfl) (by omega) kd_88 rfl rfl rfl (Nat.le_of_ble_eq_true rfl) (H.mono (fun x11 h12 H => ?_))
          refine wp_istore 45 dX8_race_43 rfl (Nat.le_of_ble_eq_true rfl) rfl ?_
          refine wp_aload_n 46 dX8_race_45 rfl rfl ?_
          refine wp_iload_n 47 dX8_race_46 rfl rfl ?_
          refine wp_iload_n 48 dX8_race_47 rfl rfl ?_
          refine wp_cV (d - 1) 2 [.int a2, .int a3] [] 51 dX8_race_48 rfl (lk_X8_244 rfl) (by omega) kd_88 rfl rfl rfl (Nat.le_of_ble_eq_true rfl) (H.mono (fun x13 h14 H => ?_))
          refine wp_iload 53 dX8_race_51 rfl rfl ?_
          refine wp_isub 54 dX8_race_53 rfl ?_
          exact wp_reti dX8_race_54 rfl H
        · replace H := H.2 c10
          refine wp_aload_n 32 dX8_race_31 rfl rfl ?_
          refine wp_iconst (1 : Int32) 33 dX8_race_32 kiconst_1 rfl ?_
          have c15 := H.1; replace H := H.2
          refine wp_cV (d - 1) 1 [.int (1 : Int32)] [] 36 dX8_race_33 rfl (lk_X8_62 rfl) (by omega) kd_88 rfl rfl rfl (Nat.le_of_ble_eq_true rfl) (sp_X8_error (by omega) c15 (fun h16 eh16 => ?_))
          replace H := H h16 eh16
          exact wp_reti dX8_race_36 rfl H

theorem cg_X8_race {G : kG} {d : Nat} {Q : Int32 → kM → Prop}  {a1 : Int32} {a2 : Int32} {a3 : Int32} {h : kM} (hd : 11 ≤ d)  (H :
    (((kb (0 ≤ a1 ∧ a1 ≤ h 89 0 - 1)) = 0 →
      (vp_in (1 : Int32) 7) ∧
      ∀ h3 : kM, h3 = kErr h 93 (1 : Int32) →
      Q (-1000000000 - (1 : Int32)) h3
    ) ∧ (¬ ((kb (0 ≤ a1 ∧ a1 ≤ h 89 0 - 1)) = 0) →
      (((kb (0 ≤ a2 ∧ a2 ≤ h 89 0 - 1)) = 0 →
        (vp_in (1 : Int32) 7) ∧
        ∀ h6 : kM, h6 = kErr h 93 (1 : Int32) →
        Q (-1000000000 - (1 : Int32)) h6
      ) ∧ (¬ ((kb (0 ≤ a2 ∧ a2 ≤ h 89 0 - 1)) = 0) →
        ((a1 = a2 →
          (vp_in (1 : Int32) 7) ∧
          ∀ h9 : kM, h9 = kErr h 93 (1 : Int32) →
          Q (-1000000000 - (1 : Int32)) h9
        ) ∧ (¬ (a1 = a2) →
          ((¬ (kb ((1 : Int32) ≤ a3 ∧ a3 ≤ (10 : Int32))) = 0 →
            Cal G (d - 1) m_X8_hoursOf [.ref 88, .int a1, .int a3] h (fun x11 h12 =>
              Cal G (d - 1) m_X8_hoursOf [.ref 88, .int a2, .int a3] h12 (fun x13 h14 =>
                Q (x13 - x11) h14
              )
            )
          ) ∧ ((kb ((1 : Int32) ≤ a3 ∧ a3 ≤ (10 : Int32))) = 0 →
            (vp_in (1 : Int32) 7) ∧
            ∀ h16 : kM, h16 = kErr h 93 (1 : Int32) →
            Q (-1000000000 - (1 : Int32)) h16
          ))
        ))
      ))
    ))) : Cal G d m_X8_race [.ref 88, .int a1, .int a2, .int a3] h Q :=
  Cal.of [.ref 88, .int a1, .int a2, .int a3, .null] (by decide +kernel) (Nat.le_of_ble_eq_true rfl) rfl (sg_X8_race_0 hd  H)

theorem sg_X7_soonest_0 {G : kG} {d : Nat} {Q : Int32 → kM → Prop}  {a1 : Int32} {a2 : Int32} {a3 : Int32} {h : kM} (hd : 17 ≤ d)  (H :
    (((kb (0 ≤ a1 ∧ a1 < h 1 12)) = 0 →
      (vp_in (1 : Int32) 7) ∧
      ∀ h3 : kM, h3 = kErr h 87 (1 : Int32) →
      Q (-1000000000 - (1 : Int32)) h3
    ) ∧ (¬ ((kb (0 ≤ a1 ∧ a1 < h 1 12)) = 0) →
      (((kb ((1 : Int32) ≤ a2 ∧ a2 ≤ (10 : Int32))) = 0 →
        (vp_in (1 : Int32) 7) ∧
        ∀ h6 : kM, h6 = kErr h 87 (1 : Int32) →
        Q (-1000000000 - (1 : Int32)) h6
      ) ∧ (¬ ((kb ((1 : Int32) ≤ a2 ∧ a2 ≤ (10 : Int32))) = 0) →
        ((¬ (kb (0 ≤ a3 ∧ a3 < (3 : Int32))) = 0 →
          Cal G (d - 1) m_X3_find [.ref 71, .ref 1, .int a1, .int a2] h (fun x8 h9 =>
            (((h9 71 7) ≤ a2 →
              ((¬ a3 = 0 →
                ((¬ a3 = (1 : Int32) →
                  Q (h9 71 8) h9
                ) ∧ (a3 = (1 : Int32) →
                  Q (h9 71 9) h9
                ))
              ) ∧ (a3 = 0 →
                Q (h9 71 7) h9
              ))
            ) ∧ (¬ ((h9 71 7) ≤ a2) →
              (vp_in (2 : Int32) 7) ∧
              ∀ h14 : kM, h14 = kErr h9 87 (2 : Int32) →
              Q (-1000000000 - (2 : Int32)) h14
            ))
          )
        ) ∧ ((kb (0 ≤ a3 ∧ a3 < (3 : Int32))) = 0 →
          (vp_in (1 : Int32) 7) ∧
          ∀ h16 : kM, h16 = kErr h 87 (1 : Int32) →
          Q (-1000000000 - (1 : Int32)) h16
        ))
      ))
    ))) : Wp G d m_X7_soonest (kEo G d m_X7_soonest Q) 0 [.ref 0, .int a1, .int a2, .int a3] [] h := by
  refine wp_aload_n 1 dX7_soonest_0 rfl rfl ?_
  refine wp_iload_n 2 dX7_soonest_1 rfl rfl ?_
  refine wp_cV (d - 1) 1 [.int a1] [] 5 dX7_soonest_2 rfl (lk_X7_84 rfl) (by omega) kd_0 rfl rfl rfl (Nat.le_of_ble_eq_true rfl) (sp_X7_isShip (by omega)  ?_)
  refine wp_if_eq 26 8 dX7_soonest_5 rfl rfl ⟨fun c1 => ?_, fun c1 => ?_⟩
  · replace H := H.1 c1
    refine wp_aload_n 27 dX7_soonest_26 rfl rfl ?_
    refine wp_iconst (1 : Int32) 28 dX7_soonest_27 kiconst_1 rfl ?_
    have c2 := H.1; replace H := H.2
    refine wp_cV (d - 1) 1 [.int (1 : Int32)] [] 31 dX7_soonest_28 rfl (lk_X7_62 rfl) (by omega) kd_0 rfl rfl rfl (Nat.le_of_ble_eq_true rfl) (sp_X7_error (by omega) c2 (fun h3 eh3 => ?_))
    replace H := H h3 eh3
    exact wp_reti dX7_soonest_31 rfl H
  · replace H := H.2 c1
    refine wp_iload_n 9 dX7_soonest_8 rfl rfl ?_
    refine wp_iconst (1 : Int32) 10 dX7_soonest_9 kiconst_1 rfl ?_
    refine wp_bipush (10 : Int32) 12 dX7_soonest_10 kbipush_10 rfl ?_
    refine wp_cS (d - 1) 3 [.int a2, .int (1 : Int32), .int (10 : Int32)] [] 15 dX7_soonest_12 rfl (lk_X7_69 rfl) (by omega) rfl rfl (Nat.le_of_ble_eq_true rfl) (sp_X7_between (by omega)  ?_)
    refine wp_if_eq 26 18 dX7_soonest_15 rfl rfl ⟨fun c4 => ?_, fun c4 => ?_⟩
    · replace H := H.1 c4
      refine wp_aload_n 27 dX7_soonest_26 rfl rfl ?_
      refine wp_iconst (1 : Int32) 28 dX7_soonest_27 kiconst_1 rfl ?_
      have c5 := H.1; replace H := H.2
      refine wp_cV (d - 1) 1 [.int (1 : Int32)] [] 31 dX7_soonest_28 rfl (lk_X7_62 rfl) (by omega) kd_0 rfl rfl rfl (Nat.le_of_ble_eq_true rfl) (sp_X7_error (by omega) c5 (fun h6 eh6 => ?_))
      replace H := H h6 eh6
      exact wp_reti dX7_soonest_31 rfl H
    · replace H := H.2 c4
      refine wp_iload_n 19 dX7_soonest_18 rfl rfl ?_
      refine wp_iconst (3 : Int32) 20 dX7_soonest_19 kiconst_3 rfl ?_
      refine wp_cS (d - 1) 2 [.int a3, .int (3 : Int32)] [] 23 dX7_soonest_20 rfl (lk_X7_58 rfl) (by omega) rfl rfl (Nat.le_of_ble_eq_true rfl) (sp_X7_within (by omega)  ?_)
      refine wp_if_ne 32 26 dX7_soonest_23 rfl rfl ⟨fun c7 => ?_, fun c7 => ?_⟩
      · replace H := H.1 c7
        refine wp_aload_n 33 dX7_soonest_32 rfl rfl ?_
        refine wp_getR 71 71 36 dX7_soonest_33 rfl fl_X7_36 kd_0 rfl rfl rfl rfl ?_
        refine wp_aload_n 37 dX7_soonest_36 rfl rfl ?_
        refine wp_getR 1 1 40 dX7_soonest_37 rfl fl_X7_12 kd_0 rfl rfl rfl rfl ?_
        refine wp_iload_n 41 dX7_soonest_40 rfl rfl ?_
        refine wp_iload_n 42 dX7_soonest_41 rfl rfl ?_
        refine wp_cV (d - 1) 3 [.ref 1, .int a1, .int a2] [] 45 dX7_soonest_42 rfl (lk_X7_192 rfl) (by omega) kd_71 rfl rfl rfl (Nat.le_of_ble_eq_true rfl) (H.mono (fun x8 h9 H => ?_))
        refine wp_aload_n 46 dX7_soonest_45 rfl rfl ?_
        refine wp_getR 71 71 49 dX7_soonest_46 rfl fl_X7_36 kd_0 rfl rfl rfl rfl ?_
        refine wp_getI 52 dX7_soonest_49 rfl fl_X7_196 kd_71 rfl ?_
        refine wp_iload_n 53 dX7_soonest_52 rfl rfl ?_
        refine wp_icmp_le 62 56 dX7_soonest_53 rfl rfl ⟨fun c10 => ?_, fun c10 => ?_⟩
        · replace H := H.1 c10
          refine wp_iload_n 63 dX7_soonest_62 rfl rfl ?_
          refine wp_if_ne 74 66 dX7_soonest_63 rfl rfl ⟨fun c11 => ?_, fun c11 => ?_⟩
          · replace H := H.1 c11
            refine wp_iload_n 75 dX7_soonest_74 rfl rfl ?_
            refine wp_iconst (1 : Int32) 76 dX7_soonest_75 kiconst_1 rfl ?_
            refine wp_icmp_ne 89 79 dX7_soonest_76 rfl rfl ⟨fun c12 => ?_, fun c12 => ?_⟩
            · replace H := H.1 c12
              refine wp_aload_n 90 dX7_soonest_89 rfl rfl ?_
              refine wp_getR 71 71 93 dX7_soonest_90 rfl fl_X7_36 kd_0 rfl rfl rfl rfl ?_
              refine wp_getI 96 dX7_soonest_93 rfl fl_X7_202 kd_71 rfl ?_
              exact wp_reti dX7_soonest_96 rfl H
            · replace H := H.2 c12
              refine wp_aload_n 80 dX7_soonest_79 rfl rfl ?_
              refine wp_getR 71 71 83 dX7_soonest_80 rfl fl_X7_36 kd_0 rfl rfl rfl rfl ?_
              refine wp_getI 86 dX7_soonest_83 rfl fl_X7_199 kd_71 rfl ?_
              refine wp_goto 96 dX7_soonest_86 rfl ?_
              exact wp_reti dX7_soonest_96 rfl H
          · replace H := H.2 c11
            refine wp_aload_n 67 dX7_soonest_66 rfl rfl ?_
            refine wp_getR 71 71 70 dX7_soonest_67 rfl fl_X7_36 kd_0 rfl rfl rfl rfl ?_
            refine wp_getI 73 dX7_soonest_70 rfl fl_X7_196 kd_71 rfl ?_
            exact wp_reti dX7_soonest_73 rfl H
        · replace H := H.2 c10
          refine wp_aload_n 57 dX7_soonest_56 rfl rfl ?_
          refine wp_iconst (2 : Int32) 58 dX7_soonest_57 kiconst_2 rfl ?_
          have c13 := H.1; replace H := H.2
          refine wp_cV (d - 1) 1 [.int (2 : Int32)] [] 61 dX7_soonest_58 rfl (lk_X7_62 rfl) (by omega) kd_0 rfl rfl rfl (Nat.le_of_ble_eq_true rfl) (sp_X7_error (by omega) c13 (fun h14 eh14 => ?_))
          replace H := H h14 eh14
          exact wp_reti dX7_soonest_61 rfl H
      · replace H := H.2 c7
        refine wp_aload_n 27 dX7_soonest_26 rfl rfl ?_
        refine wp_iconst (1 : Int32) 28 dX7_soonest_27 kiconst_1 rfl ?_
        have c15 := H.1; replace H := H.2
        refine wp_cV (d - 1) 1 [.int (1 : Int32)] [] 31 dX7_soonest_28 rfl (lk_X7_62 rfl) (by omega) kd_0 rfl rfl rfl (Nat.le_of_ble_eq_true rfl) (sp_X7_error (by omega) c15 (fun h16 eh16 => ?_))
        replace H := H h16 eh16
        exact wp_reti dX7_soonest_31 rfl H

theorem cg_X7_soonest {G : kG} {d : Nat} {Q : Int32 → kM → Prop}  {a1 : Int32} {a2 : Int32} {a3 : Int32} {h : kM} (hd : 17 ≤ d)  (H :
    (((kb (0 ≤ a1 ∧ a1 < h 1 12)) = 0 →
      (vp_in (1 : Int32) 7) ∧
      ∀ h3 : kM, h3 = kErr h 87 (1 : Int32) →
      Q (-1000000000 - (1 : Int32)) h3
    ) ∧ (¬ ((kb (0 ≤ a1 ∧ a1 < h 1 12)) = 0) →
      (((kb ((1 : Int32) ≤ a2 ∧ a2 ≤ (10 : Int32))) = 0 →
        (vp_in (1 : Int32) 7) ∧
        ∀ h6 : kM, h6 = kErr h 87 (1 : Int32) →
        Q (-1000000000 - (1 : Int32)) h6
      ) ∧ (¬ ((kb ((1 : Int32) ≤ a2 ∧ a2 ≤ (10 : Int32))) = 0) →
        ((¬ (kb (0 ≤ a3 ∧ a3 < (3 : Int32))) = 0 →
          Cal G (d - 1) m_X3_find [.ref 71, .ref 1, .int a1, .int a2] h (fun x8 h9 =>
            (((h9 71 7) ≤ a2 →
              ((¬ a3 = 0 →
                ((¬ a3 = (1 : Int32) →
                  Q (h9 71 8) h9
                ) ∧ (a3 = (1 : Int32) →
                  Q (h9 71 9) h9
                ))
              ) ∧ (a3 = 0 →
                Q (h9 71 7) h9
              ))
            ) ∧ (¬ ((h9 71 7) ≤ a2) →
              (vp_in (2 : Int32) 7) ∧
              ∀ h14 : kM, h14 = kErr h9 87 (2 : Int32) →
              Q (-1000000000 - (2 : Int32)) h14
            ))
          )
        ) ∧ ((kb (0 ≤ a3 ∧ a3 < (3 : Int32))) = 0 →
          (vp_in (1 : Int32) 7) ∧
          ∀ h16 : kM, h16 = kErr h 87 (1 : Int32) →
          Q (-1000000000 - (1 : Int32)) h16
        ))
      ))
    ))) : Cal G d m_X7_soonest [.ref 0, .int a1, .int a2, .int a3] h Q :=
  Cal.of [.ref 0, .int a1, .int a2, .int a3] (by decide +kernel) (Nat.le_of_ble_eq_true rfl) rfl (sg_X7_soonest_0 hd  H)

theorem sg_X7_race_0 {G : kG} {d : Nat} {Q : Int32 → kM → Prop}  {a1 : Int32} {a2 : Int32} {a3 : Int32} {h : kM} (hd : 17 ≤ d)  (H :
    (((kb (0 ≤ a1 ∧ a1 < h 1 12)) = 0 →
      (vp_in (1 : Int32) 7) ∧
      ∀ h3 : kM, h3 = kErr h 87 (1 : Int32) →
      Q (-1000000000 - (1 : Int32)) h3
    ) ∧ (¬ ((kb (0 ≤ a1 ∧ a1 < h 1 12)) = 0) →
      (((kb (0 ≤ a2 ∧ a2 < h 1 12)) = 0 →
        (vp_in (1 : Int32) 7) ∧
        ∀ h6 : kM, h6 = kErr h 87 (1 : Int32) →
        Q (-1000000000 - (1 : Int32)) h6
      ) ∧ (¬ ((kb (0 ≤ a2 ∧ a2 < h 1 12)) = 0) →
        ((a1 = a2 →
          (vp_in (1 : Int32) 7) ∧
          ∀ h9 : kM, h9 = kErr h 87 (1 : Int32) →
          Q (-1000000000 - (1 : Int32)) h9
        ) ∧ (¬ (a1 = a2) →
          ((¬ (kb ((1 : Int32) ≤ a3 ∧ a3 ≤ (10 : Int32))) = 0 →
            Cal G (d - 1) m_X3_find [.ref 71, .ref 1, .int a1, .int a3] h (fun x11 h12 =>
              Cal G (d - 1) m_X3_find [.ref 71, .ref 1, .int a2, .int a3] h12 (fun x13 h14 =>
                Q ((h14 71 7) - (h12 71 7)) h14
              )
            )
          ) ∧ ((kb ((1 : Int32) ≤ a3 ∧ a3 ≤ (10 : Int32))) = 0 →
            (vp_in (1 : Int32) 7) ∧
            ∀ h16 : kM, h16 = kErr h 87 (1 : Int32) →
            Q (-1000000000 - (1 : Int32)) h16
          ))
        ))
      ))
    ))) : Wp G d m_X7_race (kEo G d m_X7_race Q) 0 [.ref 0, .int a1, .int a2, .int a3, .null] [] h := by
  refine wp_aload_n 1 dX7_race_0 rfl rfl ?_
  refine wp_iload_n 2 dX7_race_1 rfl rfl ?_
  refine wp_cV (d - 1) 1 [.int a1] [] 5 dX7_race_2 rfl (lk_X7_84 rfl) (by omega) kd_0 rfl rfl rfl (Nat.le_of_ble_eq_true rfl) (sp_X7_isShip (by omega)  ?_)
  refine wp_if_eq 31 8 dX7_race_5 rfl rfl ⟨fun c1 => ?_, fun c1 => ?_⟩
  · replace H := H.1 c1
    refine wp_aload_n 32 dX7_race_31 rfl rfl ?_
    refine wp_iconst (1 : Int32) 33 dX7_race_32 kiconst_1 rfl ?_
    have c2 := H.1; replace H := H.2
    refine wp_cV (d - 1) 1 [.int (1 : Int32)] [] 36 dX7_race_33 rfl (lk_X7_62 rfl) (by omega) kd_0 rfl rfl rfl (Nat.le_of_ble_eq_true rfl) (sp_X7_error (by omega) c2 (fun h3 eh3 => ?_))
    replace H := H h3 eh3
    exact wp_reti dX7_race_36 rfl H
  · replace H := H.2 c1
    refine wp_aload_n 9 dX7_race_8 rfl rfl ?_
    refine wp_iload_n 10 dX7_race_9 rfl rfl ?_
    refine wp_cV (d - 1) 1 [.int a2] [] 13 dX7_race_10 rfl (lk_X7_84 rfl) (by omega) kd_0 rfl rfl rfl (Nat.le_of_ble_eq_true rfl) (sp_X7_isShip (by omega)  ?_)
    refine wp_if_eq 31 16 dX7_race_13 rfl rfl ⟨fun c4 => ?_, fun c4 => ?_⟩
    · replace H := H.1 c4
      refine wp_aload_n 32 dX7_race_31 rfl rfl ?_
      refine wp_iconst (1 : Int32) 33 dX7_race_32 kiconst_1 rfl ?_
      have c5 := H.1; replace H := H.2
      refine wp_cV (d - 1) 1 [.int (1 : Int32)] [] 36 dX7_race_33 rfl (lk_X7_62 rfl) (by omega) kd_0 rfl rfl rfl (Nat.le_of_ble_eq_true rfl) (sp_X7_error (by omega) c5 (fun h6 eh6 => ?_))
      replace H := H h6 eh6
      exact wp_reti dX7_race_36 rfl H
    · replace H := H.2 c4
      refine wp_iload_n 17 dX7_race_16 rfl rfl ?_
      refine wp_iload_n 18 dX7_race_17 rfl rfl ?_
      refine wp_icmp_eq 31 21 dX7_race_18 rfl rfl ⟨fun c7 => ?_, fun c7 => ?_⟩
      · replace H := H.1 c7
        refine wp_aload_n 32 dX7_race_31 rfl rfl ?_
        refine wp_iconst (1 : Int32) 33 dX7_race_32 kiconst_1 rfl ?_
        have c8 := H.1; replace H := H.2
        refine wp_cV (d - 1) 1 [.int (1 : Int32)] [] 36 dX7_race_33 rfl (lk_X7_62 rfl) (by omega) kd_0 rfl rfl rfl (Nat.le_of_ble_eq_true rfl) (sp_X7_error (by omega) c8 (fun h9 eh9 => ?_))
        replace H := H h9 eh9
        exact wp_reti dX7_race_36 rfl H
      · replace H := H.2 c7
        refine wp_iload_n 22 dX7_race_21 rfl rfl ?_
        refine wp_iconst (1 : Int32) 23 dX7_race_22 kiconst_1 rfl ?_
        refine wp_bipush (10 : Int32) 25 dX7_race_23 kbipush_10 rfl ?_
        refine wp_cS (d - 1) 3 [.int a3, .int (1 : Int32), .int (10 : Int32)] [] 28 dX7_race_25 rfl (lk_X7_69 rfl) (by omega) rfl rfl (Nat.le_of_ble_eq_true rfl) (sp_X7_between (by omega)  ?_)
        refine wp_if_ne 37 31 dX7_race_28 rfl rfl ⟨fun c10 => ?_, fun c10 => ?_⟩
        · replace H := H.1 c10
          refine wp_aload_n 38 dX7_race_37 rfl rfl ?_
          refine wp_getR 71 71 41 dX7_race_38 rfl fl_X7_36 kd_0 rfl rfl rfl rfl ?_
          refine wp_aload_n 42 dX7_race_41 rfl rfl ?_
          refine wp_getR 1 1 45 dX7_race_42 rfl fl_X7_12 kd_0 rfl rfl rfl rfl ?_
          refine wp_iload_n 46 dX7_race_45 rfl rfl ?_
          refine wp_iload_n 47 dX7_race_46 rfl rfl ?_
          refine wp_cV (d - 1) 3 [.ref 1, .int a1, .int a3] [] 50 dX7_race_47 rfl (lk_X7_192 rfl) (by omega) kd_71 rfl rfl rfl (Nat.le_of_ble_eq_true rfl) (H.mono (fun x11 h12 H => ?_))
          refine wp_aload_n 51 dX7_race_50 rfl rfl ?_
          refine wp_getR 71 71 54 dX7_race_51 rfl fl_X7_36 kd_0 rfl rfl rfl rfl ?_
          refine wp_getI 57 dX7_race_54 rfl fl_X7_196 kd_71 rfl ?_
          refine wp_istore 59 dX7_race_57 rfl (Nat.le_of_ble_eq_true rfl) rfl ?_
          refine wp_aload_n 60 dX7_race_59 rfl rfl ?_
          refine wp_getR 71 71 63 dX7_race_60 rfl fl_X7_36 kd_0 rfl rfl rfl rfl ?_
          refine wp_aload_n 64 dX7_race_63 rfl rfl ?_
          refine wp_getR 1 1 67 dX7_race_64 rfl fl_X7_12 kd_0 rfl rfl rfl rfl ?_
          refine wp_iload_n 68 dX7_race_67 rfl rfl ?_
          refine wp_iload_n 69 dX7_race_68 rfl rfl ?_
          refine wp_cV (d - 1) 3 [.ref 1, .int a2, .int a3] [] 72 dX7_race_69 rfl (lk_X7_192 rfl) (by omega) kd_71 rfl rfl rfl (Nat.le_of_ble_eq_true rfl) (H.mono (fun x13 h14 H => ?_))
          refine wp_aload_n 73 dX7_race_72 rfl rfl ?_
          refine wp_getR 71 71 76 dX7_race_73 rfl fl_X7_36 kd_0 rfl rfl rfl rfl ?_
          refine wp_getI 79 dX7_race_76 rfl fl_X7_196 kd_71 rfl ?_
          refine wp_iload 81 dX7_race_79 rfl rfl ?_
          refine wp_isub 82 dX7_race_81 rfl ?_
          exact wp_reti dX7_race_82 rfl H
        · replace H := H.2 c10
          refine wp_aload_n 32 dX7_race_31 rfl rfl ?_
          refine wp_iconst (1 : Int32) 33 dX7_race_32 kiconst_1 rfl ?_
          have c15 := H.1; replace H := H.2
          refine wp_cV (d - 1) 1 [.int (1 : Int32)] [] 36 dX7_race_33 rfl (lk_X7_62 rfl) (by omega) kd_0 rfl rfl rfl (Nat.le_of_ble_eq_true rfl) (sp_X7_error (by omega) c15 (fun h16 eh16 => ?_))
          replace H := H h16 eh16
          exact wp_reti dX7_race_36 rfl H

theorem cg_X7_race {G : kG} {d : Nat} {Q : Int32 → kM → Prop}  {a1 : Int32} {a2 : Int32} {a3 : Int32} {h : kM} (hd : 17 ≤ d)  (H :
    (((kb (0 ≤ a1 ∧ a1 < h 1 12)) = 0 →
      (vp_in (1 : Int32) 7) ∧
      ∀ h3 : kM, h3 = kErr h 87 (1 : Int32) →
      Q (-1000000000 - (1 : Int32)) h3
    ) ∧ (¬ ((kb (0 ≤ a1 ∧ a1 < h 1 12)) = 0) →
      (((kb (0 ≤ a2 ∧ a2 < h 1 12)) = 0 →
        (vp_in (1 : Int32) 7) ∧
        ∀ h6 : kM, h6 = kErr h 87 (1 : Int32) →
        Q (-1000000000 - (1 : Int32)) h6
      ) ∧ (¬ ((kb (0 ≤ a2 ∧ a2 < h 1 12)) = 0) →
        ((a1 = a2 →
          (vp_in (1 : Int32) 7) ∧
          ∀ h9 : kM, h9 = kErr h 87 (1 : Int32) →
          Q (-1000000000 - (1 : Int32)) h9
        ) ∧ (¬ (a1 = a2) →
          ((¬ (kb ((1 : Int32) ≤ a3 ∧ a3 ≤ (10 : Int32))) = 0 →
            Cal G (d - 1) m_X3_find [.ref 71, .ref 1, .int a1, .int a3] h (fun x11 h12 =>
              Cal G (d - 1) m_X3_find [.ref 71, .ref 1, .int a2, .int a3] h12 (fun x13 h14 =>
                Q ((h14 71 7) - (h12 71 7)) h14
              )
            )
          ) ∧ ((kb ((1 : Int32) ≤ a3 ∧ a3 ≤ (10 : Int32))) = 0 →
            (vp_in (1 : Int32) 7) ∧
            ∀ h16 : kM, h16 = kErr h 87 (1 : Int32) →
            Q (-1000000000 - (1 : Int32)) h16
          ))
        ))
      ))
    ))) : Cal G d m_X7_race [.ref 0, .int a1, .int a2, .int a3] h Q :=
  Cal.of [.ref 0, .int a1, .int a2, .int a3, .null] (by decide +kernel) (Nat.le_of_ble_eq_true rfl) rfl (sg_X7_race_0 hd  H)

theorem lp_first (hd : 10 ≤ d) {a1 a2 a3 : Int32} {T R : Nat} (hT : T ≤ 10) (hR : R < 4 ^ 10) (e13 : h 88 13 = nI T) (k : Q (if a3 = 0 then nI T else if a3 = 1 then nI (kF1 T R) else h 88 14) h) : ∀ (m j : Nat), (j + m = T ∨ T = 0 ∧ m = 0) → 1 ≤ j → (T = 0 → j = 1) → at_X8_soonest_62 G d Q a1 a2 a3 (nI (R / 4 ^ (j - 1))) (nI j) h := by
  have p10 : 4 ^ 10 = 1048576 := by decide
  intro m
  induction m with
  | zero =>
    intro j hj h1 hz
    have le : nI T ≤ nI j := nI_le (by omega) (by omega)
    refine sg_X8_soonest_62 hd ⟨fun _ => ?_, fun z => absurd (by rw [e13]; exact le) z⟩
    rw [e13]
    refine ⟨fun n0 => ⟨fun n1 => ?_, fun e1 => ⟨fun nz => ?_, fun z => ?_⟩⟩, fun e0 => ?_⟩
    · rw [if_neg n0, if_neg n1] at k
      exact k
    · have hT0 : ¬ T = 0 := fun e => nz (by rw [e]; exact nI_0)
      have ej : j = T := by omega
      rw [if_neg n0, if_pos e1] at k
      rw [ej]
      unfold kF1 at k
      rw [if_neg hT0] at k
      exact k
    · have hT0 : T = 0 := (nI_eq (b := 0) (by omega) (by decide)).mp (z.trans nI_0.symm)
      rw [if_neg n0, if_pos e1] at k
      unfold kF1 at k
      rw [if_pos hT0] at k
      exact k
    · rw [if_pos e0] at k
      exact k
  | succ m ih =>
    intro j hj h1 hz
    have hlt : R / 4 ^ (j - 1) ≤ R := Nat.div_le_self _ _
    refine sg_X8_soonest_62 hd ⟨fun z => absurd z (by rw [e13]; exact ltn (nI_lt (by omega) (by omega))), fun _ => ?_⟩
    have e4 : nI (R / 4 ^ (j - 1)) / 4 = nI (R / 4 ^ (j - 1) / 4) := pk_div (d := 4) (by omega) (by decide) (by decide)
    have e5 : R / 4 ^ (j - 1) / 4 = R / 4 ^ (j + 1 - 1) := by
      rw [show j + 1 - 1 = (j - 1) + 1 by omega, Nat.pow_succ, Nat.div_div_eq_div_mul]
    rw [e4, e5, nI_1]
    exact ih (j + 1) (by omega) (by omega) (by omega)
theorem st_soonest (hd : 17 ≤ d) (hR : kRel h) (a1 a2 a3 : Int32) : kStp G d m_X7_soonest m_X8_soonest [.int a1, .int a2, .int a3] h := by
  obtain ⟨n, H, f, w, hS, hH⟩ := hR.n
  obtain ⟨hn, n1, n2⟩ := hS.1
  have n1 : h 1 12 = nI n := n1
  by_cases hc : 0 ≤ a1 ∧ a1 < nI n
  · by_cases hu : 1 ≤ a2 ∧ a2 ≤ 10
    · by_cases hv : 0 ≤ a3 ∧ a3 < 3
      · obtain ⟨p, hp, rfl⟩ := iI (n := n) (by omega) hc.1 hc.2
        obtain ⟨N, hN1, hN, rfl⟩ := iB 1 10 (by decide) hu.1 hu.2 (by decide)
        refine cg_X7_soonest hd ⟨fun q => absurd (by rw [n1]; exact hc) (kb_0.mp q), fun _ => ⟨fun q => absurd hu (kb_0.mp q), fun _ => ⟨fun _ => ?_, fun q => absurd hv (kb_0.mp q)⟩⟩⟩
        refine sp_X3_find (d := d - 1) (by omega) hS hp hN1 hN (fun h1 b o1 B1 w1 w2 P1 => ?_)
        have hR1 : kRel h1 := hR.scr (fun a ha => o1 a (by unfold kScr at ha; omega) (by unfold kScr at ha; omega) (by unfold kScr at ha; omega))
        have o89 : h1 89 = h 89 := o1 89 (by omega) (by omega) (by omega)
        have mo : ∀ {Q2 : Int32 → kM → Prop} (h2 : kM), (h2 89 = h 89) → (b.1 = N + 1 → ∀ h3, (∀ a, ¬ kScr a → a ≠ 88 → h3 a = h2 a) → (∀ s, s ≠ 13 → s ≠ 14 → s ≠ 15 → h3 88 s = h2 88 s) → ∀ h4, h4 = kErr h3 93 2 → Q2 (-1000000000 - 2) h4) → (b.1 ≤ N → ∀ h3, (∀ a, ¬ kScr a → a ≠ 88 → h3 a = h2 a) → (∀ s, s ≠ 13 → s ≠ 14 → s ≠ 15 → h3 88 s = h2 88 s) → Q2 (if a3 = 0 then nI b.1 else if a3 = 1 then nI (kF1 b.1 b.2.2) else nI b.2.1) h3) → Cal G d m_X8_soonest [.ref 88, .int (nI p), .int (nI N), .int a3] h2 Q2 := fun {Q2} h2 g2 k0 k1 => by
          refine cg_X8_soonest (by omega) ⟨fun q => absurd (by rw [g2, n2]; exact (iM (by omega)).mpr hc) (kb_0.mp q), fun _ => ⟨fun q => absurd hu (kb_0.mp q), fun _ => ⟨fun _ => ?_, fun q => absurd (i2.mpr hv) (kb_0.mp q)⟩⟩⟩
          refine sp_X8_findSoonest (d := d - 1) (v := kVw h 1) (by omega) (hS.congr2 g2) hp hN hH (fun h3 b' o3 s3 B3 m1 m2 => ?_)
          have o3' : ∀ a, ¬ kScr a → a ≠ 88 → h3 a = h2 a := fun a ha h88 => o3 a h88 (by unfold kScr at ha; omega) (by unfold kScr at ha; omega) (by unfold kScr at ha; omega)
          rcases kSame P1 m1 m2 with ⟨e1, e2⟩ | ⟨e1, e2⟩
          · have z := B3.1 e1
            exact ⟨fun y => absurd z y, fun _ => ⟨kin7 (n := 2) (by decide), fun h4 e4 => k0 e2 h3 o3' s3 h4 e4⟩⟩
          · obtain ⟨y1, y2, y3, z1, z2, z3⟩ := B3.2 b e1
            refine ⟨fun _ => ?_, fun y => absurd (y1.symm.trans y) (nI_m1 (by omega))⟩
            rw [y3]
            have r := k1 e2 h3 o3' s3
            rw [← y2] at r
            have lf := lp_first (G := G) (a1 := nI p) (a2 := nI N) (by omega : 10 ≤ d) z1 z3 y1 r (b.1 - 1) 1 (by omega) (Nat.le_refl 1) (fun _ => rfl)
            rw [Nat.sub_self, Nat.pow_zero, Nat.div_one] at lf
            exact lf
        have fin : ∀ h2 h3, h2 = h1 → (∀ a, ¬ kScr a → a ≠ 88 → h3 a = h2 a) → (∀ s, s ≠ 13 → s ≠ 14 → s ≠ 15 → h3 88 s = h2 88 s) → kRel h3 := fun h2 h3 e o3 s3 => by
          subst e
          exact hR1.same (fun a a1 _ _ a2 => o3 a a1 a2) (by rw [o3 0 (by unfold kScr; omega) (by decide)]) (by rw [o3 76 (by unfold kScr; omega) (by decide)]) (s3 4 (by decide) (by decide) (by decide)) (s3 17 (by decide) (by decide) (by decide))
        obtain ⟨B7, B8, B9⟩ := B1
        rw [B7, B8]
        have good : b.1 ≤ N → ∀ x, x = (if a3 = 0 then nI b.1 else if a3 = 1 then nI (kF1 b.1 b.2.2) else nI b.2.1) → Cal G d m_X8_soonest [.ref 88, .int (nI p), .int (nI N), .int a3] h1 (fun y h2 => x = y ∧ kRel h2) := fun le x ex =>
          mo h1 o89 (fun e => by omega) (fun _ h3 o3 s3 => ⟨ex, fin h1 h3 rfl o3 s3⟩)
        refine ⟨fun le => ?_, fun nle => ⟨kin7 (n := 2) (by decide), fun h2 e2 => ?_⟩⟩
        · have le' : b.1 ≤ N := (nI_leI (by omega) (by omega)).mp le
          rw [B9 le']
          refine ⟨fun n0 => ⟨fun n1' => good le' _ ?_, fun e1 => good le' _ ?_⟩, fun e0 => good le' _ ?_⟩
          · rw [if_neg n0, if_neg n1']
          · rw [if_neg n0, if_pos e1]
          · rw [if_pos e0]
        · have nle' : ¬ b.1 ≤ N := fun e => nle (nI_le e (by omega))
          refine mo h2 (by rw [e2, kErr_ne (by decide), o89]) (fun _ h3 o3 s3 h4 e4 => ⟨rfl, ?_⟩) (fun e => absurd e nle')
          have r := fin h1 (fun a => if a = 87 then h1 87 else h3 a) rfl (fun a a1 a2 => ?_) (fun s s1 s2 s3' => ?_)
          · refine (r.err 2).scr (fun a ha => ?_)
            rw [e4]
            by_cases c87 : a = 87
            · subst c87
              rw [kErr_ne (by decide), kErr_ne (by decide), o3 87 ha (by decide), e2]
              unfold kErr
              rw [kU_eq, kU_eq]
              rfl
            · by_cases c93 : a = 93
              · subst c93
                unfold kErr
                rw [kU_eq, kU_eq, kU_ne (by decide)]
                rfl
              · rw [kErr_ne c93, kErr_ne c93, kErr_ne c87]
                exact (if_neg c87).symm
          · show (if a = 87 then h1 87 else h3 a) = h1 a
            by_cases c87 : a = 87
            · rw [if_pos c87, c87]
            · rw [if_neg c87, o3 a a1 a2, e2, kErr_ne c87]
          · show h3 88 s = h1 88 s
            rw [s3 s s1 s2 s3', e2, kErr_ne (by decide)]
      · refine cg_X7_soonest hd ⟨fun q => absurd (by rw [n1]; exact hc) (kb_0.mp q), fun _ => ⟨fun q => absurd hu (kb_0.mp q), fun _ => ⟨fun q => absurd (kb_n0.mp q) hv, fun _ => ⟨kin7 (n := 1) (by decide), fun h1 e1 => ?_⟩⟩⟩⟩
        have x0 : h1 89 0 = nI n := by rw [e1, kErr_ne (by decide)]; exact n2
        exact cg_X8_soonest (by omega) ⟨fun q => absurd (by rw [x0]; exact (iM (by omega)).mpr hc) (kb_0.mp q), fun _ => ⟨fun q => absurd hu (kb_0.mp q), fun _ => ⟨fun q => absurd (i2.mp (kb_n0.mp q)) hv, fun _ => ⟨kin7 (n := 1) (by decide), kErrs hR h1 e1⟩⟩⟩⟩
    · refine cg_X7_soonest hd ⟨fun q => absurd (by rw [n1]; exact hc) (kb_0.mp q), fun _ => ⟨fun _ => ⟨kin7 (n := 1) (by decide), fun h1 e1 => ?_⟩, fun q => absurd (kb_n0.mp q) hu⟩⟩
      have x0 : h1 89 0 = nI n := by rw [e1, kErr_ne (by decide)]; exact n2
      exact cg_X8_soonest (by omega) ⟨fun q => absurd (by rw [x0]; exact (iM (by omega)).mpr hc) (kb_0.mp q), fun _ => ⟨fun _ => ⟨kin7 (n := 1) (by decide), kErrs hR h1 e1⟩, fun q => absurd (kb_n0.mp q) hu⟩⟩
  · refine cg_X7_soonest hd ⟨fun _ => ⟨kin7 (n := 1) (by decide), fun h1 e1 => ?_⟩, fun q => absurd (by have := kb_n0.mp q; rw [n1] at this; exact this) hc⟩
    have x0 : h1 89 0 = nI n := by rw [e1, kErr_ne (by decide)]; exact n2
    exact cg_X8_soonest (by omega) ⟨fun _ => ⟨kin7 (n := 1) (by decide), kErrs hR h1 e1⟩, fun q => absurd ((iM (by omega)).mp (by have := kb_n0.mp q; rw [x0] at this; exact this)) hc⟩
theorem st_race (hd : 17 ≤ d) (hR : kRel h) (a1 a2 a3 : Int32) : kStp G d m_X7_race m_X8_race [.int a1, .int a2, .int a3] h := by
  obtain ⟨n, H, f, w, hS, hH⟩ := hR.n
  obtain ⟨hn, n1, n2⟩ := hS.1
  have n1 : h 1 12 = nI n := n1
  have i1' := kin7 (n := 1) (by decide)
  by_cases hc : 0 ≤ a1 ∧ a1 < nI n
  · by_cases hv : 0 ≤ a2 ∧ a2 < nI n
    · by_cases he : a1 = a2
      · refine cg_X7_race hd ⟨fun q => absurd (by rw [n1]; exact hc) (kb_0.mp q), fun _ => ⟨fun q => absurd (by rw [n1]; exact hv) (kb_0.mp q), fun _ => ⟨fun _ => ⟨i1', fun h1 e1 => ?_⟩, fun z => absurd he z⟩⟩⟩
        have x0 : h1 89 0 = nI n := by rw [e1, kErr_ne (by decide)]; exact n2
        exact cg_X8_race (by omega) ⟨fun q => absurd (by rw [x0]; exact (iM (by omega)).mpr hc) (kb_0.mp q), fun _ => ⟨fun q => absurd (by rw [x0]; exact (iM (by omega)).mpr hv) (kb_0.mp q), fun _ => ⟨fun _ => ⟨i1', kErrs hR h1 e1⟩, fun z => absurd he z⟩⟩⟩
      · by_cases hu : 1 ≤ a3 ∧ a3 ≤ 10
        · obtain ⟨p, hp, rfl⟩ := iI (n := n) (by omega) hc.1 hc.2
          obtain ⟨p2, hp2, rfl⟩ := iI (n := n) (by omega) hv.1 hv.2
          obtain ⟨N, hN1, hN, rfl⟩ := iB 1 10 (by decide) hu.1 hu.2 (by decide)
          refine cg_X7_race hd ⟨fun q => absurd (by rw [n1]; exact hc) (kb_0.mp q), fun _ => ⟨fun q => absurd (by rw [n1]; exact hv) (kb_0.mp q), fun _ => ⟨fun z => absurd z he, fun _ => ⟨fun _ => ?_, fun q => absurd hu (kb_0.mp q)⟩⟩⟩⟩
          refine sp_X3_find (d := d - 1) (by omega) hS hp hN1 hN (fun h1 b o1 B1 w1 w2 P1 => ?_)
          have ev : kVEq (kVw h 1) (kVw h1 1) := fun a x y => o1 (1 + a) (by omega) (by omega) (by omega)
          refine sp_X3_find (d := d - 1) (by omega) (hS.eq ev) hp2 hN1 hN (fun h2 c o2 C1 v1 v2 P2 => ?_)
          have o12 : ∀ a, ¬ (71 ≤ a ∧ a ≤ 75) → a ≠ 14 → a ≠ 17 → h2 a = h a := fun a x y z => by rw [o2 a x y z, o1 a x y z]
          have hR1 : kRel h2 := hR.scr (fun a ha => o12 a (by unfold kScr at ha; omega) (by unfold kScr at ha; omega) (by unfold kScr at ha; omega))
          have o89 : h2 89 = h 89 := o12 89 (by omega) (by omega) (by omega)
          rw [B1.1, C1.1]
          have ho : ∀ {Q2 : Int32 → kM → Prop} (vv : kM) (pp : Nat) (bb : Nat × Nat × Nat) (h3 : kM), kSRn vv (h3 89) n H f w → pp < n → kPo (kOut vv pp N 0 (kSh vv pp 0) (fun _ => -1) 0 0) (N + 1, 0, 0) bb → (∀ h4, (∀ a, a ≠ 88 → a ≠ 92 → a ≠ 95 → a ≠ 96 → h4 a = h3 a) → (∀ s, s ≠ 13 → s ≠ 14 → s ≠ 15 → h4 88 s = h3 88 s) → Q2 (nI bb.1) h4) → Cal G (d - 1) m_X8_hoursOf [.ref 88, .int (nI pp), .int (nI N)] h3 Q2 := fun {Q2} vv pp bb h3 hS3 hpp P3 k3 => by
            refine cg_X8_hoursOf (by omega) (sp_X8_findSoonest (d := d - 1 - 1) (by omega) hS3 hpp hN hH (fun h4 b' o4 s4 B4 m1 m2 => ?_))
            have r := k3 h4 o4 s4
            rcases kSame P3 m1 m2 with ⟨e1, e2⟩ | ⟨e1, e2⟩
            · have z := B4.1 e1
              rw [e2] at r
              refine ⟨fun y => absurd z y, fun _ => ?_⟩
              rw [nI_1]
              exact r
            · obtain ⟨y1, y2, y3, z1, z2, z3⟩ := B4.2 bb e1
              refine ⟨fun _ => ?_, fun y => absurd (y1.symm.trans y) (nI_m1 (by omega))⟩
              rw [y1]
              exact r
          refine cg_X8_race (by omega) ⟨fun q => absurd (by rw [o89, n2]; exact (iM (by omega)).mpr hc) (kb_0.mp q), fun _ => ⟨fun q => absurd (by rw [o89, n2]; exact (iM (by omega)).mpr hv) (kb_0.mp q), fun _ => ⟨fun z => absurd z he, fun _ => ⟨fun _ => ?_, fun q => absurd hu (kb_0.mp q)⟩⟩⟩⟩
          refine ho (kVw h 1) p b h2 (hS.congr2 o89) hp P1 (fun h4 o4 s4 => ?_)
          refine ho (kVw h1 1) p2 c h4 ((hS.eq ev).congr2 (by rw [o4 89 (by decide) (by decide) (by decide) (by decide), o89])) hp2 P2 (fun h5 o5 s5 => ⟨rfl, ?_⟩)
          have oo : ∀ a, ¬ kScr a → a ≠ 88 → h5 a = h2 a := fun a ha h88 => by rw [o5 a h88 (by unfold kScr at ha; omega) (by unfold kScr at ha; omega) (by unfold kScr at ha; omega), o4 a h88 (by unfold kScr at ha; omega) (by unfold kScr at ha; omega) (by unfold kScr at ha; omega)]
          exact hR1.same (fun a a1 _ _ a2 => oo a a1 a2) (by rw [oo 0 (by unfold kScr; omega) (by decide)]) (by rw [oo 76 (by unfold kScr; omega) (by decide)]) (by rw [s5 4 (by decide) (by decide) (by decide), s4 4 (by decide) (by decide) (by decide)]) (by rw [s5 17 (by decide) (by decide) (by decide), s4 17 (by decide) (by decide) (by decide)])
        · refine cg_X7_race hd ⟨fun q => absurd (by rw [n1]; exact hc) (kb_0.mp q), fun _ => ⟨fun q => absurd (by rw [n1]; exact hv) (kb_0.mp q), fun _ => ⟨fun z => absurd z he, fun _ => ⟨fun q => absurd (kb_n0.mp q) hu, fun _ => ⟨i1', fun h1 e1 => ?_⟩⟩⟩⟩⟩
          have x0 : h1 89 0 = nI n := by rw [e1, kErr_ne (by decide)]; exact n2
          exact cg_X8_race (by omega) ⟨fun q => absurd (by rw [x0]; exact (iM (by omega)).mpr hc) (kb_0.mp q), fun _ => ⟨fun q => absurd (by rw [x0]; exact (iM (by omega)).mpr hv) (kb_0.mp q), fun _ => ⟨fun z => absurd z he, fun _ => ⟨fun q => absurd (kb_n0.mp q) hu, fun _ => ⟨i1', kErrs hR h1 e1⟩⟩⟩⟩⟩
    · refine cg_X7_race hd ⟨fun q => absurd (by rw [n1]; exact hc) (kb_0.mp q), fun _ => ⟨fun _ => ⟨i1', fun h1 e1 => ?_⟩, fun q => absurd (by have := kb_n0.mp q; rw [n1] at this; exact this) hv⟩⟩
      have x0 : h1 89 0 = nI n := by rw [e1, kErr_ne (by decide)]; exact n2
      exact cg_X8_race (by omega) ⟨fun q => absurd (by rw [x0]; exact (iM (by omega)).mpr hc) (kb_0.mp q), fun _ => ⟨fun _ => ⟨i1', kErrs hR h1 e1⟩, fun q => absurd ((iM (by omega)).mp (by have := kb_n0.mp q; rw [x0] at this; exact this)) hv⟩⟩
  · refine cg_X7_race hd ⟨fun _ => ⟨i1', fun h1 e1 => ?_⟩, fun q => absurd (by have := kb_n0.mp q; rw [n1] at this; exact this) hc⟩
    have x0 : h1 89 0 = nI n := by rw [e1, kErr_ne (by decide)]; exact n2
    exact cg_X8_race (by omega) ⟨fun _ => ⟨i1', kErrs hR h1 e1⟩, fun q => absurd ((iM (by omega)).mp (by have := kb_n0.mp q; rw [x0] at this; exact this)) hc⟩
end Soon

