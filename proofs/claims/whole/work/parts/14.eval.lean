/-! texts worked out -/
section Eval
variable {G : kG} {d : Nat} {Q : Int32 → kM → Prop} {h : kM}
abbrev kSgn (x : Int32) : Prop := x = 124 ∨ x = 38 ∨ x = 60 ∨ x = 61 ∨ x = 62 ∨ x = 43 ∨ x = 45 ∨ x = 42 ∨ x = 47 ∨ x = 37
theorem div_m1 (x : Int32) : x / (-1) = -x := by
  apply Int32.toInt_inj.mp
  rw [Int32.toInt_div, show (-1 : Int32).toInt = -1 from rfl, Int.tdiv_neg, Int.tdiv_one, Int32.toInt_neg]
theorem rem_m1 (x : Int32) : iR x (-1) = 0 := by
  unfold iR
  rw [div_m1, Int32.neg_mul_neg, Int32.mul_one, Int32.sub_self]
theorem sp_X8_joined (hd : 1 ≤ d) {o x y : Int32} (ho : kSgn o) (k : Q (kJn o x y) h) : Cal G d m_X8_joined [.int o, .int x, .int y] h Q := by
  unfold kJn at k
  apply cg_X8_joined hd
  refine ⟨fun e => ?_, fun n37 => ?_⟩
  · subst e
    rw [if_neg (by decide), if_neg (by decide), if_neg (by decide), if_neg (by decide), if_neg (by decide), if_neg (by decide), if_neg (by decide), if_neg (by decide), if_neg (by decide)] at k
    exact ⟨fun c => by rw [if_pos c] at k; exact k, fun c => ⟨fun c2 => ⟨c, by rw [if_neg c] at k; exact k⟩, fun c2 => by rw [if_neg c, c2, rem_m1] at k; exact k⟩⟩
  refine ⟨fun e => ?_, fun e => ?_⟩
  · rw [if_pos e] at k
    exact ⟨fun c => kq0 k (fun q => q.1 c), fun c => ⟨fun c2 => kq0 k (fun q => q.2 c2), fun c2 => kq1 k ⟨c, c2⟩⟩⟩
  rw [if_neg e] at k
  refine ⟨fun e => by rw [if_pos e] at k; exact k, fun e2 => ?_⟩
  rw [if_neg e2] at k
  refine ⟨fun e => by rw [if_pos e] at k; exact k, fun e3 => ?_⟩
  rw [if_neg e3] at k
  refine ⟨fun e => by rw [if_pos e] at k; exact k, fun e4 => ?_⟩
  rw [if_neg e4] at k
  refine ⟨fun e => ?_, fun e5 => ?_⟩
  · rw [if_pos e] at k
    exact ⟨fun c => ⟨fun c2 => ⟨c, by rw [if_neg c] at k; exact k⟩, fun c2 => by rw [if_neg c, c2, div_m1] at k; exact k⟩, fun c => by rw [if_pos c] at k; exact k⟩
  rw [if_neg e5] at k
  refine ⟨fun e => ?_, fun e6 => ?_⟩
  · rw [if_pos e] at k
    exact ⟨fun c => kq0 k (len c), fun c => kq1 k (nle c)⟩
  rw [if_neg e6] at k
  refine ⟨fun e => ?_, fun e7 => ?_⟩
  · rw [if_pos e] at k
    exact ⟨fun c => kq0 k c, fun c => kq1 k c⟩
  rw [if_neg e7] at k
  refine ⟨fun e => ?_, fun e8 => ?_⟩
  · rw [if_pos e] at k
    exact ⟨fun c => kq0 k (len c), fun c => kq1 k (nle c)⟩
  rw [if_neg e8] at k
  have e9 : o = 124 := by
    rcases ho with q | q | q | q | q | q | q | q | q | q
    · exact q
    · exact absurd q e
    · exact absurd q e6
    · exact absurd q e7
    · exact absurd q e8
    · exact absurd q e3
    · exact absurd q e4
    · exact absurd q e2
    · exact absurd q e5
    · exact absurd q n37
  rw [if_pos e9] at k
  exact ⟨fun c => kq1 k (Or.inl c), fun c => ⟨fun c2 => kq0 k (fun q => q.elim (fun z => z c) (fun z => z c2)), fun c2 => kq1 k (Or.inr c2)⟩⟩
def at_X6_value_6 (G : kG) (d : Nat) (Q : Int32 → kM → Prop) (t : Nat) (v1 : Int32) (v2 : Int32) (v3 : Int32) (v4 : Int32) (v5 : Int32) (h : kM) : Prop := Wp G d m_X6_value (kEo G d m_X6_value Q) 6 [.ref t, .int v1, .int v2, .int v3, .int v4, .int v5, .null] [] h
theorem sg_X6_value_0 {G : kG} {d : Nat} {Q : Int32 → kM → Prop} {t : Nat} {a1 : Int32} {a2 : Int32} {a3 : Int32} {h : kM} (hd : 2 ≤ d) (k_t : kTxt t) (H :
    at_X6_value_6 G d Q t a1 a2 a3 (0 : Int32) (0 : Int32) h) : Wp G d m_X6_value (kEo G d m_X6_value Q) 0 [.ref t, .int a1, .int a2, .int a3, .null, .null, .null] [] h := by
  refine wp_iconst (0 : Int32) 1 dX6_value_0 kiconst_0 rfl ?_
  refine wp_istore 3 dX6_value_1 rfl (Nat.le_of_ble_eq_true rfl) rfl ?_
  refine wp_iconst (0 : Int32) 4 dX6_value_3 kiconst_0 rfl ?_
  refine wp_istore 6 dX6_value_4 rfl (Nat.le_of_ble_eq_true rfl) rfl ?_
  exact H

theorem cg_X6_value {G : kG} {d : Nat} {Q : Int32 → kM → Prop} {t : Nat} {a1 : Int32} {a2 : Int32} {a3 : Int32} {h : kM} (hd : 2 ≤ d) (k_t : kTxt t) (H :
    at_X6_value_6 G d Q t a1 a2 a3 (0 : Int32) (0 : Int32) h) : Cal G d m_X6_value [.ref t, .int a1, .int a2, .int a3] h Q :=
  Cal.of [.ref t, .int a1, .int a2, .int a3, .null, .null, .null] (by decide +kernel) (Nat.le_of_ble_eq_true rfl) rfl (sg_X6_value_0 hd k_t H)

theorem sg_X6_value_6 {G : kG} {d : Nat} {Q : Int32 → kM → Prop} {t : Nat} {v1 : Int32} {v2 : Int32} {v3 : Int32} {v4 : Int32} {v5 : Int32} {h : kM} (hd : 2 ≤ d) (k_t : kTxt t) (H :
    (((h t 2) ≤ v5 →
      ((v4 ≤ 0 →
        Q (0 : Int32) h
      ) ∧ (¬ (v4 ≤ 0) →
        Q (h (t + 2) 0) h
      ))
    ) ∧ (¬ ((h t 2) ≤ v5) →
      (vp_in v5 60) ∧
      ((¬ (h (t + 1) (v5).toNatClampNeg) = (-33 : Int32) →
        (((h (t + 1) (v5).toNatClampNeg) < 0 →
          ((v4 ≤ (1 : Int32) →
            at_X6_value_6 G d Q t v1 v2 v3 v4 (v5 + (1 : Int32)) h
          ) ∧ (¬ (v4 ≤ (1 : Int32)) →
            (vp_in ((v4 + (-1 : Int32)) - (1 : Int32)) 60) ∧
            (vp_in (v4 + (-1 : Int32)) 60) ∧
            (vp_in ((v4 + (-1 : Int32)) - (1 : Int32)) 60) ∧
            ∀ h10 : kM, h10 = kU h (t + 2) (((v4 + (-1 : Int32)) - (1 : Int32))).toNatClampNeg (kJn (-(h (t + 1) (v5).toNatClampNeg)) (h (t + 2) (((v4 + (-1 : Int32)) - (1 : Int32))).toNatClampNeg) (h (t + 2) ((v4 + (-1 : Int32))).toNatClampNeg)) →
            at_X6_value_6 G d Q t v1 v2 v3 (v4 + (-1 : Int32)) (v5 + (1 : Int32)) h10
          ))
        ) ∧ (¬ ((h (t + 1) (v5).toNatClampNeg) < 0) →
          (((60 : Int32) ≤ v4 →
            ((v4 ≤ (1 : Int32) →
              at_X6_value_6 G d Q t v1 v2 v3 v4 (v5 + (1 : Int32)) h
            ) ∧ (¬ (v4 ≤ (1 : Int32)) →
              (vp_in ((v4 + (-1 : Int32)) - (1 : Int32)) 60) ∧
              (vp_in (v4 + (-1 : Int32)) 60) ∧
              (vp_in ((v4 + (-1 : Int32)) - (1 : Int32)) 60) ∧
              ∀ h16 : kM, h16 = kU h (t + 2) (((v4 + (-1 : Int32)) - (1 : Int32))).toNatClampNeg (kJn (-(h (t + 1) (v5).toNatClampNeg)) (h (t + 2) (((v4 + (-1 : Int32)) - (1 : Int32))).toNatClampNeg) (h (t + 2) ((v4 + (-1 : Int32))).toNatClampNeg)) →
              at_X6_value_6 G d Q t v1 v2 v3 (v4 + (-1 : Int32)) (v5 + (1 : Int32)) h16
            ))
          ) ∧ (¬ ((60 : Int32) ≤ v4) →
            (vp_in v4 60) ∧
            ∀ h18 : kM, h18 = kU h (t + 2) (v4).toNatClampNeg (kOpd (h (t + 1) (v5).toNatClampNeg) v1 v2 v3) →
            at_X6_value_6 G d Q t v1 v2 v3 (v4 + (1 : Int32)) (v5 + (1 : Int32)) h18
          ))
        ))
      ) ∧ ((h (t + 1) (v5).toNatClampNeg) = (-33 : Int32) →
        ((v4 ≤ 0 →
          (((h (t + 1) (v5).toNatClampNeg) < 0 →
            ((v4 ≤ (1 : Int32) →
              at_X6_value_6 G d Q t v1 v2 v3 v4 (v5 + (1 : Int32)) h
            ) ∧ (¬ (v4 ≤ (1 : Int32)) →
              (vp_in ((v4 + (-1 : Int32)) - (1 : Int32)) 60) ∧
              (vp_in (v4 + (-1 : Int32)) 60) ∧
              (vp_in ((v4 + (-1 : Int32)) - (1 : Int32)) 60) ∧
              ∀ h25 : kM, h25 = kU h (t + 2) (((v4 + (-1 : Int32)) - (1 : Int32))).toNatClampNeg (kJn (-(h (t + 1) (v5).toNatClampNeg)) (h (t + 2) (((v4 + (-1 : Int32)) - (1 : Int32))).toNatClampNeg) (h (t + 2) ((v4 + (-1 : Int32))).toNatClampNeg)) →
              at_X6_value_6 G d Q t v1 v2 v3 (v4 + (-1 : Int32)) (v5 + (1 : Int32)) h25
            ))
          ) ∧ (¬ ((h (t + 1) (v5).toNatClampNeg) < 0) →
            (((60 : Int32) ≤ v4 →
              ((v4 ≤ (1 : Int32) →
                at_X6_value_6 G d Q t v1 v2 v3 v4 (v5 + (1 : Int32)) h
              ) ∧ (¬ (v4 ≤ (1 : Int32)) →
                (vp_in ((v4 + (-1 : Int32)) - (1 : Int32)) 60) ∧
                (vp_in (v4 + (-1 : Int32)) 60) ∧
                (vp_in ((v4 + (-1 : Int32)) - (1 : Int32)) 60) ∧
                ∀ h31 : kM, h31 = kU h (t + 2) (((v4 + (-1 : Int32)) - (1 : Int32))).toNatClampNeg (kJn (-(h (t + 1) (v5).toNatClampNeg)) (h (t + 2) (((v4 + (-1 : Int32)) - (1 : Int32))).toNatClampNeg) (h (t + 2) ((v4 + (-1 : Int32))).toNatClampNeg)) →
                at_X6_value_6 G d Q t v1 v2 v3 (v4 + (-1 : Int32)) (v5 + (1 : Int32)) h31
              ))
            ) ∧ (¬ ((60 : Int32) ≤ v4) →
              (vp_in v4 60) ∧
              ∀ h33 : kM, h33 = kU h (t + 2) (v4).toNatClampNeg (kOpd (h (t + 1) (v5).toNatClampNeg) v1 v2 v3) →
              at_X6_value_6 G d Q t v1 v2 v3 (v4 + (1 : Int32)) (v5 + (1 : Int32)) h33
            ))
          ))
        ) ∧ (¬ (v4 ≤ 0) →
          (vp_in (v4 - (1 : Int32)) 60) ∧
          ((¬ (h (t + 2) ((v4 - (1 : Int32))).toNatClampNeg) = 0 →
            (vp_in (v4 - (1 : Int32)) 60) ∧
            ∀ h37 : kM, h37 = kU h (t + 2) ((v4 - (1 : Int32))).toNatClampNeg (0 : Int32) →
            at_X6_value_6 G d Q t v1 v2 v3 v4 (v5 + (1 : Int32)) h37
          ) ∧ ((h (t + 2) ((v4 - (1 : Int32))).toNatClampNeg) = 0 →
            (vp_in (v4 - (1 : Int32)) 60) ∧
            ∀ h39 : kM, h39 = kU h (t + 2) ((v4 - (1 : Int32))).toNatClampNeg (1 : Int32) →
            at_X6_value_6 G d Q t v1 v2 v3 v4 (v5 + (1 : Int32)) h39
          ))
        ))
      ))
    ))) : at_X6_value_6 G d Q t v1 v2 v3 v4 v5 h := by
  show Wp G d m_X6_value (kEo G d m_X6_value Q) 6 [.ref t, .int v1, .int v2, .int v3, .int v4, .int v5, .null] [] h
  refine wp_iload 8 dX6_value_6 rfl rfl ?_
  refine wp_aload_n 9 dX6_value_8 rfl rfl ?_
  refine wp_getI 12 dX6_value_9 rfl fl_X6_18 (kTxt_0 k_t) rfl ?_
  refine wp_icmp_ge 144 15 dX6_value_12 rfl rfl ⟨fun c1 => ?_, fun c1 => ?_⟩
  · replace H := H.1 c1
    refine wp_iload 146 dX6_value_144 rfl rfl ?_
    refine wp_if_le 158 149 dX6_value_146 rfl rfl ⟨fun c2 => ?_, fun c2 => ?_⟩
    · replace H := H.1 c2
      refine wp_iconst (0 : Int32) 159 dX6_value_158 kiconst_0 rfl ?_
      exact wp_reti dX6_value_159 rfl H
    · replace H := H.2 c2
      refine wp_aload_n 150 dX6_value_149 rfl rfl ?_
      refine wp_getR 2 (t + 2) 153 dX6_value_150 rfl fl_X6_15 (kTxt_0 k_t) rfl rfl rfl rfl ?_
      refine wp_iconst (0 : Int32) 154 dX6_value_153 kiconst_0 rfl ?_
      refine wp_iald 155 dX6_value_154 rfl (kTxt_2 k_t) (by unfold vp_in; decide) ?_
      refine wp_goto 159 dX6_value_155 rfl ?_
      exact wp_reti dX6_value_159 rfl H
  · replace H := H.2 c1
    refine wp_aload_n 16 dX6_value_15 rfl rfl ?_
    refine wp_getR 1 (t + 1) 19 dX6_value_16 rfl fl_X6_9 (kTxt_0 k_t) rfl rfl rfl rfl ?_
    refine wp_iload 21 dX6_value_19 rfl rfl ?_
    have c3 := H.1; replace H := H.2
    refine wp_iald 22 dX6_value_21 rfl (kTxt_1 k_t) c3 ?_
    refine wp_istore 24 dX6_value_22 rfl (Nat.le_of_ble_eq_true rfl) rfl ?_
    refine wp_iload 26 dX6_value_24 rfl rfl ?_
    refine wp_bipush (-33 : Int32) 28 dX6_value_26 kbipush_m33 rfl ?_
    refine wp_icmp_ne 65 31 dX6_value_28 rfl rfl ⟨fun c4 => ?_, fun c4 => ?_⟩
    · replace H := H.1 c4
      refine wp_iload 67 dX6_value_65 rfl rfl ?_
      refine wp_if_lt 98 70 dX6_value_67 rfl rfl ⟨fun c5 => ?_, fun c5 => ?_⟩
      · replace H := H.1 c5
        refine wp_iload 100 dX6_value_98 rfl rfl ?_
        refine wp_iconst (1 : Int32) 101 dX6_value_100 kiconst_1 rfl ?_
        refine wp_icmp_le 138 104 dX6_value_101 rfl rfl ⟨fun c6 => ?_, fun c6 => ?_⟩
        · replace H := H.1 c6
          refine wp_iinc (1 : Int32) 141 dX6_value_138 rfl rfl kiconst_1 (Nat.le_of_ble_eq_true rfl) rfl ?_
          refine wp_goto 6 dX6_value_141 rfl ?_
          refine wp_drop 6 ?_
          exact H
        · replace H := H.2 c6
          refine wp_iinc (-1 : Int32) 107 dX6_value_104 rfl rfl kiconst_m1 (Nat.le_of_ble_eq_true rfl) rfl ?_
          refine wp_aload_n 108 dX6_value_107 rfl rfl ?_
          refine wp_getR 2 (t + 2) 111 dX6_value_108 rfl fl_X6_15 (kTxt_0 k_t) rfl rfl rfl rfl ?_
          refine wp_iload 113 dX6_value_111 rfl rfl ?_
          refine wp_iconst (1 : Int32) 114 dX6_value_113 kiconst_1 rfl ?_
          refine wp_isub 115 dX6_value_114 rfl ?_
          refine wp_iload 117 dX6_value_115 rfl rfl ?_
          refine wp_ineg 118 dX6_value_117 rfl ?_
          refine wp_aload_n 119 dX6_value_118 rfl rfl ?_
          refine wp_getR 2 (t + 2) 122 dX6_value_119 rfl fl_X6_15 (kTxt_0 k_t) rfl rfl rfl rfl ?_
          refine wp_iload 124 dX6_value_122 rfl rfl ?_
          refine wp_iconst (1 : Int32) 125 dX6_value_124 kiconst_1 rfl ?_
          refine wp_isub 126 dX6_value_125 rfl ?_
          have c7 := H.1; replace H := H.2
          refine wp_iald 127 dX6_value_126 rfl (kTxt_2 k_t) c7 ?_
          refine wp_aload_n 128 dX6_value_127 rfl rfl ?_
          refine wp_getR 2 (t + 2) 131 dX6_value_128 rfl fl_X6_15 (kTxt_0 k_t) rfl rfl rfl rfl ?_
          refine wp_iload 133 dX6_value_131 rfl rfl ?_
          have c8 := H.1; replace H := H.2
          refine wp_iald 134 dX6_value_133 rfl (kTxt_2 k_t) c8 ?_
          refine wp_cS (d - 1) 3 [.int (-(h (t + 1) (v5).toNatClampNeg)), .int (h (t + 2) (((v4 + (-1 : Int32)) - (1 : Int32))).toNatClampNeg), .int (h (t + 2) ((v4 + (-1 : Int32))).toNatClampNeg)] [.int ((v4 + (-1 : Int32)) - (1 : Int32)), .ref (t + 2)] 137 dX6_value_134 rfl (lk_X6_32 rfl) (by omega) rfl rfl (Nat.le_of_ble_eq_true rfl) (sp_X6_joined (by omega)  ?_)
          have c9 := H.1; replace H := H.2
          refine wp_iast 138 dX6_value_137 rfl (kTxt_2 k_t) c9 ?_
          refine wp_nm (fun h10 eh10 => ?_)
          replace H := H h10 eh10
          refine wp_iinc (1 : Int32) 141 dX6_value_138 rfl rfl kiconst_1 (Nat.le_of_ble_eq_true rfl) rfl ?_
          refine wp_goto 6 dX6_value_141 rfl ?_
          refine wp_drop 6 ?_
          exact H
      · replace H := H.2 c5
        refine wp_iload 72 dX6_value_70 rfl rfl ?_
        refine wp_bipush (60 : Int32) 74 dX6_value_72 kbipush_60 rfl ?_
        refine wp_icmp_ge 98 77 dX6_value_74 rfl rfl ⟨fun c11 => ?_, fun c11 => ?_⟩
        · replace H := H.1 c11
          refine wp_iload 100 dX6_value_98 rfl rfl ?_
          refine wp_iconst (1 : Int32) 101 dX6_value_100 kiconst_1 rfl ?_
          refine wp_icmp_le 138 104 dX6_value_101 rfl rfl ⟨fun c12 => ?_, fun c12 => ?_⟩
          · replace H := H.1 c12
            refine wp_iinc (1 : Int32) 141 dX6_value_138 rfl rfl kiconst_1 (Nat.le_of_ble_eq_true rfl) rfl ?_
            refine wp_goto 6 dX6_value_141 rfl ?_
            refine wp_drop 6 ?_
            exact H
          · replace H := H.2 c12
            refine wp_iinc (-1 : Int32) 107 dX6_value_104 rfl rfl kiconst_m1 (Nat.le_of_ble_eq_true rfl) rfl ?_
            refine wp_aload_n 108 dX6_value_107 rfl rfl ?_
            refine wp_getR 2 (t + 2) 111 dX6_value_108 rfl fl_X6_15 (kTxt_0 k_t) rfl rfl rfl rfl ?_
            refine wp_iload 113 dX6_value_111 rfl rfl ?_
            refine wp_iconst (1 : Int32) 114 dX6_value_113 kiconst_1 rfl ?_
            refine wp_isub 115 dX6_value_114 rfl ?_
            refine wp_iload 117 dX6_value_115 rfl rfl ?_
            refine wp_ineg 118 dX6_value_117 rfl ?_
            refine wp_aload_n 119 dX6_value_118 rfl rfl ?_
            refine wp_getR 2 (t + 2) 122 dX6_value_119 rfl fl_X6_15 (kTxt_0 k_t) rfl rfl rfl rfl ?_
            refine wp_iload 124 dX6_value_122 rfl rfl ?_
            refine wp_iconst (1 : Int32) 125 dX6_value_124 kiconst_1 rfl ?_
            refine wp_isub 126 dX6_value_125 rfl ?_
            have c13 := H.1; replace H := H.2
            refine wp_iald 127 dX6_value_126 rfl (kTxt_2 k_t) c13 ?_
            refine wp_aload_n 128 dX6_value_127 rfl rfl ?_
            refine wp_getR 2 (t + 2) 131 dX6_value_128 rfl fl_X6_15 (kTxt_0 k_t) rfl rfl rfl rfl ?_
            refine wp_iload 133 dX6_value_131 rfl rfl ?_
            have c14 := H.1; replace H := H.2
            refine wp_iald 134 dX6_value_133 rfl (kTxt_2 k_t) c14 ?_
            refine wp_cS (d - 1) 3 [.int (-(h (t + 1) (v5).toNatClampNeg)), .int (h (t + 2) (((v4 + (-1 : Int32)) - (1 : Int32))).toNatClampNeg), .int (h (t + 2) ((v4 + (-1 : Int32))).toNatClampNeg)] [.int ((v4 + (-1 : Int32)) - (1 : Int32)), .ref (t + 2)] 137 dX6_value_134 rfl (lk_X6_32 rfl) (by omega) rfl rfl (Nat.le_of_ble_eq_true rfl) (sp_X6_joined (by omega)  ?_)
            have c15 := H.1; replace H := H.2
            refine wp_iast 138 dX6_value_137 rfl (kTxt_2 k_t) c15 ?_
            refine wp_nm (fun h16 eh16 => ?_)
            replace H := H h16 eh16
            refine wp_iinc (1 : Int32) 141 dX6_value_138 rfl rfl kiconst_1 (Nat.le_of_ble_eq_true rfl) rfl ?_
            refine wp_goto 6 dX6_value_141 rfl ?_
            refine wp_drop 6 ?_
            exact H
        · replace H := H.2 c11
          refine wp_aload_n 78 dX6_value_77 rfl rfl ?_
          refine wp_getR 2 (t + 2) 81 dX6_value_78 rfl fl_X6_15 (kTxt_0 k_t) rfl rfl rfl rfl ?_
          refine wp_iload 83 dX6_value_81 rfl rfl ?_
          refine wp_iload 85 dX6_value_83 rfl rfl ?_
          refine wp_iload_n 86 dX6_value_85 rfl rfl ?_
          refine wp_iload_n 87 dX6_value_86 rfl rfl ?_
          refine wp_iload_n 88 dX6_value_87 rfl rfl ?_
          refine wp_cS (d - 1) 4 [.int (h (t + 1) (v5).toNatClampNeg), .int v1, .int v2, .int v3] [.int v4, .ref (t + 2)] 91 dX6_value_88 rfl (lk_X6_28 rfl) (by omega) rfl rfl (Nat.le_of_ble_eq_true rfl) (sp_X6_operand (by omega)  ?_)
          have c17 := H.1; replace H := H.2
          refine wp_iast 92 dX6_value_91 rfl (kTxt_2 k_t) c17 ?_
          refine wp_nm (fun h18 eh18 => ?_)
          replace H := H h18 eh18
          refine wp_iinc (1 : Int32) 95 dX6_value_92 rfl rfl kiconst_1 (Nat.le_of_ble_eq_true rfl) rfl ?_
          refine wp_goto 138 dX6_value_95 rfl ?_
          refine wp_iinc (1 : Int32) 141 dX6_value_138 rfl rfl kiconst_1 (Nat.le_of_ble_eq_true rfl) rfl ?_
          refine wp_goto 6 dX6_value_141 rfl ?_
          refine wp_drop 6 ?_
          exact H
    · replace H := H.2 c4
      refine wp_iload 33 dX6_value_31 rfl rfl ?_
      refine wp_if_le 65 36 dX6_value_33 rfl rfl ⟨fun c19 => ?_, fun c19 => ?_⟩
      · replace H := H.1 c19
        refine wp_iload 67 dX6_value_65 rfl rfl ?_
        refine wp_if_lt 98 70 dX6_value_67 rfl rfl ⟨fun c20 => ?_, fun c20 => ?_⟩
        · replace H := H.1 c20
          refine wp_iload 100 dX6_value_98 rfl rfl ?_
          refine wp_iconst (1 : Int32) 101 dX6_value_100 kiconst_1 rfl ?_
          refine wp_icmp_le 138 104 dX6_value_101 rfl rfl ⟨fun c21 => ?_, fun c21 => ?_⟩
          · replace H := H.1 c21
            refine wp_iinc (1 : Int32) 141 dX6_value_138 rfl rfl kiconst_1 (Nat.le_of_ble_eq_true rfl) rfl ?_
            refine wp_goto 6 dX6_value_141 rfl ?_
            refine wp_drop 6 ?_
            exact H
          · replace H := H.2 c21
            refine wp_iinc (-1 : Int32) 107 dX6_value_104 rfl rfl kiconst_m1 (Nat.le_of_ble_eq_true rfl) rfl ?_
            refine wp_aload_n 108 dX6_value_107 rfl rfl ?_
            refine wp_getR 2 (t + 2) 111 dX6_value_108 rfl fl_X6_15 (kTxt_0 k_t) rfl rfl rfl rfl ?_
            refine wp_iload 113 dX6_value_111 rfl rfl ?_
            refine wp_iconst (1 : Int32) 114 dX6_value_113 kiconst_1 rfl ?_
            refine wp_isub 115 dX6_value_114 rfl ?_
            refine wp_iload 117 dX6_value_115 rfl rfl ?_
            refine wp_ineg 118 dX6_value_117 rfl ?_
            refine wp_aload_n 119 dX6_value_118 rfl rfl ?_
            refine wp_getR 2 (t + 2) 122 dX6_value_119 rfl fl_X6_15 (kTxt_0 k_t) rfl rfl rfl rfl ?_
            refine wp_iload 124 dX6_value_122 rfl rfl ?_
            refine wp_iconst (1 : Int32) 125 dX6_value_124 kiconst_1 rfl ?_
            refine wp_isub 126 dX6_value_125 rfl ?_
            have c22 := H.1; replace H := H.2
            refine wp_iald 127 dX6_value_126 rfl (kTxt_2 k_t) c22 ?_
            refine wp_aload_n 128 dX6_value_127 rfl rfl ?_
            refine wp_getR 2 (t + 2) 131 dX6_value_128 rfl fl_X6_15 (kTxt_0 k_t) rfl rfl rfl rfl ?_
            refine wp_iload 133 dX6_value_131 rfl rfl ?_
            have c23 := H.1; replace H := H.2
            refine wp_iald 134 dX6_value_133 rfl (kTxt_2 k_t) c23 ?_
            refine wp_cS (d - 1) 3 [.int (-(h (t + 1) (v5).toNatClampNeg)), .int (h (t + 2) (((v4 + (-1 : Int32)) - (1 : Int32))).toNatClampNeg), .int (h (t + 2) ((v4 + (-1 : Int32))).toNatClampNeg)] [.int ((v4 + (-1 : Int32)) - (1 : Int32)), .ref (t + 2)] 137 dX6_value_134 rfl (lk_X6_32 rfl) (by omega) rfl rfl (Nat.le_of_ble_eq_true rfl) (sp_X6_joined (by omega)  ?_)
            have c24 := H.1; replace H := H.2
            refine wp_iast 138 dX6_value_137 rfl (kTxt_2 k_t) c24 ?_
            refine wp_nm (fun h25 eh25 => ?_)
            replace H := H h25 eh25
            refine wp_iinc (1 : Int32) 141 dX6_value_138 rfl rfl kiconst_1 (Nat.le_of_ble_eq_true rfl) rfl ?_
            refine wp_goto 6 dX6_value_141 rfl ?_
            refine wp_drop 6 ?_
            exact H
        · replace H := H.2 c20
          refine wp_iload 72 dX6_value_70 rfl rfl ?_
          refine wp_bipush (60 : Int32) 74 dX6_value_72 kbipush_60 rfl ?_
          refine wp_icmp_ge 98 77 dX6_value_74 rfl rfl ⟨fun c26 => ?_, fun c26 => ?_⟩
          · replace H := H.1 c26
            refine wp_iload 100 dX6_value_98 rfl rfl ?_
            refine wp_iconst (1 : Int32) 101 dX6_value_100 kiconst_1 rfl ?_
            refine wp_icmp_le 138 104 dX6_value_101 rfl rfl ⟨fun c27 => ?_, fun c27 => ?_⟩
            · replace H := H.1 c27
              refine wp_iinc (1 : Int32) 141 dX6_value_138 rfl rfl kiconst_1 (Nat.le_of_ble_eq_true rfl) rfl ?_
              refine wp_goto 6 dX6_value_141 rfl ?_
              refine wp_drop 6 ?_
              exact H
            · replace H := H.2 c27
              refine wp_iinc (-1 : Int32) 107 dX6_value_104 rfl rfl kiconst_m1 (Nat.le_of_ble_eq_true rfl) rfl ?_
              refine wp_aload_n 108 dX6_value_107 rfl rfl ?_
              refine wp_getR 2 (t + 2) 111 dX6_value_108 rfl fl_X6_15 (kTxt_0 k_t) rfl rfl rfl rfl ?_
              refine wp_iload 113 dX6_value_111 rfl rfl ?_
              refine wp_iconst (1 : Int32) 114 dX6_value_113 kiconst_1 rfl ?_
              refine wp_isub 115 dX6_value_114 rfl ?_
              refine wp_iload 117 dX6_value_115 rfl rfl ?_
              refine wp_ineg 118 dX6_value_117 rfl ?_
              refine wp_aload_n 119 dX6_value_118 rfl rfl ?_
              refine wp_getR 2 (t + 2) 122 dX6_value_119 rfl fl_X6_15 (kTxt_0 k_t) rfl rfl rfl rfl ?_
              refine wp_iload 124 dX6_value_122 rfl rfl ?_
              refine wp_iconst (1 : Int32) 125 dX6_value_124 kiconst_1 rfl ?_
              refine wp_isub 126 dX6_value_125 rfl ?_
              have c28 := H.1; replace H := H.2
              refine wp_iald 127 dX6_value_126 rfl (kTxt_2 k_t) c28 ?_
              refine wp_aload_n 128 dX6_value_127 rfl rfl ?_
              refine wp_getR 2 (t + 2) 131 dX6_value_128 rfl fl_X6_15 (kTxt_0 k_t) rfl rfl rfl rfl ?_
              refine wp_iload 133 dX6_value_131 rfl rfl ?_
              have c29 := H.1; replace H := H.2
              refine wp_iald 134 dX6_value_133 rfl (kTxt_2 k_t) c29 ?_
              refine wp_cS (d - 1) 3 [.int (-(h (t + 1) (v5).toNatClampNeg)), .int (h (t + 2) (((v4 + (-1 : Int32)) - (1 : Int32))).toNatClampNeg), .int (h (t + 2) ((v4 + (-1 : Int32))).toNatClampNeg)] [.int ((v4 + (-1 : Int32)) - (1 : Int32)), .ref (t + 2)] 137 dX6_value_134 rfl (lk_X6_32 rfl) (by omega) rfl rfl (Nat.le_of_ble_eq_true rfl) (sp_X6_joined (by omega)  ?_)
              have c30 := H.1; replace H := H.2
              refine wp_iast 138 dX6_value_137 rfl (kTxt_2 k_t) c30 ?_
              refine wp_nm (fun h31 eh31 => ?_)
              replace H := H h31 eh31
              refine wp_iinc (1 : Int32) 141 dX6_value_138 rfl rfl kiconst_1 (Nat.le_of_ble_eq_true rfl) rfl ?_
              refine wp_goto 6 dX6_value_141 rfl ?_
              refine wp_drop 6 ?_
              exact H
          · replace H := H.2 c26
            refine wp_aload_n 78 dX6_value_77 rfl rfl ?_
            refine wp_getR 2 (t + 2) 81 dX6_value_78 rfl fl_X6_15 (kTxt_0 k_t) rfl rfl rfl rfl ?_
            refine wp_iload 83 dX6_value_81 rfl rfl ?_
            refine wp_iload 85 dX6_value_83 rfl rfl ?_
            refine wp_iload_n 86 dX6_value_85 rfl rfl ?_
            refine wp_iload_n 87 dX6_value_86 rfl rfl ?_
            refine wp_iload_n 88 dX6_value_87 rfl rfl ?_
            refine wp_cS (d - 1) 4 [.int (h (t + 1) (v5).toNatClampNeg), .int v1, .int v2, .int v3] [.int v4, .ref (t + 2)] 91 dX6_value_88 rfl (lk_X6_28 rfl) (by omega) rfl rfl (Nat.le_of_ble_eq_true rfl) (sp_X6_operand (by omega)  ?_)
            have c32 := H.1; replace H := H.2
            refine wp_iast 92 dX6_value_91 rfl (kTxt_2 k_t) c32 ?_
            refine wp_nm (fun h33 eh33 => ?_)
            replace H := H h33 eh33
            refine wp_iinc (1 : Int32) 95 dX6_value_92 rfl rfl kiconst_1 (Nat.le_of_ble_eq_true rfl) rfl ?_
            refine wp_goto 138 dX6_value_95 rfl ?_
            refine wp_iinc (1 : Int32) 141 dX6_value_138 rfl rfl kiconst_1 (Nat.le_of_ble_eq_true rfl) rfl ?_
            refine wp_goto 6 dX6_value_141 rfl ?_
            refine wp_drop 6 ?_
            exact H
      · replace H := H.2 c19
        refine wp_aload_n 37 dX6_value_36 rfl rfl ?_
        refine wp_getR 2 (t + 2) 40 dX6_value_37 rfl fl_X6_15 (kTxt_0 k_t) rfl rfl rfl rfl ?_
        refine wp_iload 42 dX6_value_40 rfl rfl ?_
        refine wp_iconst (1 : Int32) 43 dX6_value_42 kiconst_1 rfl ?_
        refine wp_isub 44 dX6_value_43 rfl ?_
        refine wp_aload_n 45 dX6_value_44 rfl rfl ?_
        refine wp_getR 2 (t + 2) 48 dX6_value_45 rfl fl_X6_15 (kTxt_0 k_t) rfl rfl rfl rfl ?_
        refine wp_iload 50 dX6_value_48 rfl rfl ?_
        refine wp_iconst (1 : Int32) 51 dX6_value_50 kiconst_1 rfl ?_
        refine wp_isub 52 dX6_value_51 rfl ?_
        have c34 := H.1; replace H := H.2
        refine wp_iald 53 dX6_value_52 rfl (kTxt_2 k_t) c34 ?_
        refine wp_if_ne 60 56 dX6_value_53 rfl rfl ⟨fun c35 => ?_, fun c35 => ?_⟩
        · replace H := H.1 c35
          refine wp_iconst (0 : Int32) 61 dX6_value_60 kiconst_0 rfl ?_
          have c36 := H.1; replace H := H.2
          refine wp_iast 62 dX6_value_61 rfl (kTxt_2 k_t) c36 ?_
          refine wp_nm (fun h37 eh37 => ?_)
          replace H := H h37 eh37
          refine wp_goto 138 dX6_value_62 rfl ?_
          refine wp_iinc (1 : Int32) 141 dX6_value_138 rfl rfl kiconst_1 (Nat.le_of_ble_eq_true rfl) rfl ?_
          refine wp_goto 6 dX6_value_141 rfl ?_
          refine wp_drop 6 ?_
          exact H
        · replace H := H.2 c35
          refine wp_iconst (1 : Int32) 57 dX6_value_56 kiconst_1 rfl ?_
          refine wp_goto 61 dX6_value_57 rfl ?_
          have c38 := H.1; replace H := H.2
          refine wp_iast 62 dX6_value_61 rfl (kTxt_2 k_t) c38 ?_
          refine wp_nm (fun h39 eh39 => ?_)
          replace H := H h39 eh39
          refine wp_goto 138 dX6_value_62 rfl ?_
          refine wp_iinc (1 : Int32) 141 dX6_value_138 rfl rfl kiconst_1 (Nat.le_of_ble_eq_true rfl) rfl ?_
          refine wp_goto 6 dX6_value_141 rfl ?_
          refine wp_drop 6 ?_
          exact H

def at_X8_worked_14 (G : kG) (d : Nat) (Q : Int32 → kM → Prop)  (v1 : Int32) (v2 : Int32) (v3 : Int32) (v4 : Int32) (h : kM) : Prop := Wp G d m_X8_worked (kEo G d m_X8_worked Q) 14 [.ref 88, .int v1, .int v2, .int v3, .int v4, .null, .null] [] h
theorem sg_X8_worked_0 {G : kG} {d : Nat} {Q : Int32 → kM → Prop}  {a1 : Int32} {h : kM} (hd : 2 ≤ d)  (H :
    at_X8_worked_14 G d Q a1 ((147 : Int32) + ((125 : Int32) * a1)) (0 : Int32) (0 : Int32) h) : Wp G d m_X8_worked (kEo G d m_X8_worked Q) 0 [.ref 88, .int a1, .null, .null, .null, .null, .null] [] h := by
  refine wp_sipush (147 : Int32) 3 dX8_worked_0 ksipush_147 rfl ?_
  refine wp_bipush (125 : Int32) 5 dX8_worked_3 kbipush_125 rfl ?_
  refine wp_iload_n 6 dX8_worked_5 rfl rfl ?_
  refine wp_imul 7 dX8_worked_6 rfl ?_
  refine wp_iadd 8 dX8_worked_7 rfl ?_
  refine wp_istore_n 9 dX8_worked_8 rfl (Nat.le_of_ble_eq_true rfl) rfl ?_
  refine wp_iconst (0 : Int32) 10 dX8_worked_9 kiconst_0 rfl ?_
  refine wp_istore_n 11 dX8_worked_10 rfl (Nat.le_of_ble_eq_true rfl) rfl ?_
  refine wp_iconst (0 : Int32) 12 dX8_worked_11 kiconst_0 rfl ?_
  refine wp_istore 14 dX8_worked_12 rfl (Nat.le_of_ble_eq_true rfl) rfl ?_
  exact H

theorem cg_X8_worked {G : kG} {d : Nat} {Q : Int32 → kM → Prop}  {a1 : Int32} {h : kM} (hd : 2 ≤ d)  (H :
    at_X8_worked_14 G d Q a1 ((147 : Int32) + ((125 : Int32) * a1)) (0 : Int32) (0 : Int32) h) : Cal G d m_X8_worked [.ref 88, .int a1] h Q :=
  Cal.of [.ref 88, .int a1, .null, .null, .null, .null, .null] (by decide +kernel) (Nat.le_of_ble_eq_true rfl) rfl (sg_X8_worked_0 hd  H)

theorem sg_X8_worked_14 {G : kG} {d : Nat} {Q : Int32 → kM → Prop}  {v1 : Int32} {v2 : Int32} {v3 : Int32} {v4 : Int32} {h : kM} (hd : 2 ≤ d)  (H :
    (vp_in v2 481) ∧
    (((h 89 (v2).toNatClampNeg) ≤ v4 →
      Q (h 96 0) h
    ) ∧ (¬ ((h 89 (v2).toNatClampNeg) ≤ v4) →
      (vp_in ((v2 + (1 : Int32)) + ((2 : Int32) * v4)) 481) ∧
      (vp_in ((v2 + (2 : Int32)) + ((2 : Int32) * v4)) 481) ∧
      (((h 89 (((v2 + (1 : Int32)) + ((2 : Int32) * v4))).toNatClampNeg) = 0 →
        (vp_in v3 64) ∧
        ∀ h8 : kM, h8 = kU h 96 (v3).toNatClampNeg (h 89 (((v2 + (2 : Int32)) + ((2 : Int32) * v4))).toNatClampNeg) →
        at_X8_worked_14 G d Q v1 v2 (v3 + (1 : Int32)) (v4 + (1 : Int32)) h8
      ) ∧ (¬ ((h 89 (((v2 + (1 : Int32)) + ((2 : Int32) * v4))).toNatClampNeg) = 0) →
        ((¬ (h 89 (((v2 + (1 : Int32)) + ((2 : Int32) * v4))).toNatClampNeg) = (1 : Int32) →
          ((¬ (h 89 (((v2 + (1 : Int32)) + ((2 : Int32) * v4))).toNatClampNeg) = (2 : Int32) →
            (vp_in ((v3 + (-1 : Int32)) - (1 : Int32)) 64) ∧
            (vp_in (v3 + (-1 : Int32)) 64) ∧
            (kSgn (h 89 (((v2 + (2 : Int32)) + ((2 : Int32) * v4))).toNatClampNeg)) ∧
            (vp_in ((v3 + (-1 : Int32)) - (1 : Int32)) 64) ∧
            ∀ h15 : kM, h15 = kU h 96 (((v3 + (-1 : Int32)) - (1 : Int32))).toNatClampNeg (kJn (h 89 (((v2 + (2 : Int32)) + ((2 : Int32) * v4))).toNatClampNeg) (h 96 (((v3 + (-1 : Int32)) - (1 : Int32))).toNatClampNeg) (h 96 ((v3 + (-1 : Int32))).toNatClampNeg)) →
            at_X8_worked_14 G d Q v1 v2 (v3 + (-1 : Int32)) (v4 + (1 : Int32)) h15
          ) ∧ ((h 89 (((v2 + (1 : Int32)) + ((2 : Int32) * v4))).toNatClampNeg) = (2 : Int32) →
            (vp_in (v3 - (1 : Int32)) 64) ∧
            ((¬ (h 96 ((v3 - (1 : Int32))).toNatClampNeg) = 0 →
              (vp_in (v3 - (1 : Int32)) 64) ∧
              ∀ h19 : kM, h19 = kU h 96 ((v3 - (1 : Int32))).toNatClampNeg (0 : Int32) →
              at_X8_worked_14 G d Q v1 v2 v3 (v4 + (1 : Int32)) h19
            ) ∧ ((h 96 ((v3 - (1 : Int32))).toNatClampNeg) = 0 →
              (vp_in (v3 - (1 : Int32)) 64) ∧
              ∀ h21 : kM, h21 = kU h 96 ((v3 - (1 : Int32))).toNatClampNeg (1 : Int32) →
              at_X8_worked_14 G d Q v1 v2 v3 (v4 + (1 : Int32)) h21
            ))
          ))
        ) ∧ ((h 89 (((v2 + (1 : Int32)) + ((2 : Int32) * v4))).toNatClampNeg) = (1 : Int32) →
          (vp_in (h 89 (((v2 + (2 : Int32)) + ((2 : Int32) * v4))).toNatClampNeg) 128) ∧
          (vp_in v3 64) ∧
          ∀ h25 : kM, h25 = kU h 96 (v3).toNatClampNeg (h 95 ((h 89 (((v2 + (2 : Int32)) + ((2 : Int32) * v4))).toNatClampNeg)).toNatClampNeg) →
          at_X8_worked_14 G d Q v1 v2 (v3 + (1 : Int32)) (v4 + (1 : Int32)) h25
        ))
      ))
    ))) : at_X8_worked_14 G d Q v1 v2 v3 v4 h := by
  show Wp G d m_X8_worked (kEo G d m_X8_worked Q) 14 [.ref 88, .int v1, .int v2, .int v3, .int v4, .null, .null] [] h
  refine wp_iload 16 dX8_worked_14 rfl rfl ?_
  refine wp_aload_n 17 dX8_worked_16 rfl rfl ?_
  refine wp_getR 1 89 20 dX8_worked_17 rfl fl_X8_7 kd_88 rfl rfl rfl rfl ?_
  refine wp_iload_n 21 dX8_worked_20 rfl rfl ?_
  have c1 := H.1; replace H := H.2
  refine wp_iald 22 dX8_worked_21 rfl kd_89 c1 ?_
  refine wp_icmp_ge 164 25 dX8_worked_22 rfl rfl ⟨fun c2 => ?_, fun c2 => ?_⟩
  · replace H := H.1 c2
    refine wp_aload_n 165 dX8_worked_164 rfl rfl ?_
    refine wp_getR 8 96 168 dX8_worked_165 rfl fl_X8_31 kd_88 rfl rfl rfl rfl ?_
    refine wp_iconst (0 : Int32) 169 dX8_worked_168 kiconst_0 rfl ?_
    refine wp_iald 170 dX8_worked_169 rfl kd_96 (by unfold vp_in; decide) ?_
    exact wp_reti dX8_worked_170 rfl H
  · replace H := H.2 c2
    refine wp_aload_n 26 dX8_worked_25 rfl rfl ?_
    refine wp_getR 1 89 29 dX8_worked_26 rfl fl_X8_7 kd_88 rfl rfl rfl rfl ?_
    refine wp_iload_n 30 dX8_worked_29 rfl rfl ?_
    refine wp_iconst (1 : Int32) 31 dX8_worked_30 kiconst_1 rfl ?_
    refine wp_iadd 32 dX8_worked_31 rfl ?_
    refine wp_iconst (2 : Int32) 33 dX8_worked_32 kiconst_2 rfl ?_
    refine wp_iload 35 dX8_worked_33 rfl rfl ?_
    refine wp_imul 36 dX8_worked_35 rfl ?_
    refine wp_iadd 37 dX8_worked_36 rfl ?_
    have c3 := H.1; replace H := H.2
    refine wp_iald 38 dX8_worked_37 rfl kd_89 c3 ?_
    refine wp_istore 40 dX8_worked_38 rfl (Nat.le_of_ble_eq_true rfl) rfl ?_
    refine wp_aload_n 41 dX8_worked_40 rfl rfl ?_
    refine wp_getR 1 89 44 dX8_worked_41 rfl fl_X8_7 kd_88 rfl rfl rfl rfl ?_
    refine wp_iload_n 45 dX8_worked_44 rfl rfl ?_
    refine wp_iconst (2 : Int32) 46 dX8_worked_45 kiconst_2 rfl ?_
    refine wp_iadd 47 dX8_worked_46 rfl ?_
    refine wp_iconst (2 : Int32) 48 dX8_worked_47 kiconst_2 rfl ?_
    refine wp_iload 50 dX8_worked_48 rfl rfl ?_
    refine wp_imul 51 dX8_worked_50 rfl ?_
    refine wp_iadd 52 dX8_worked_51 rfl ?_
    have c4 := H.1; replace H := H.2
    refine wp_iald 53 dX8_worked_52 rfl kd_89 c4 ?_
    refine wp_istore 55 dX8_worked_53 rfl (Nat.le_of_ble_eq_true rfl) rfl ?_
    refine wp_iload 57 dX8_worked_55 rfl rfl ?_
    refine wp_if_eq 66 60 dX8_worked_57 rfl rfl ⟨fun c5 => ?_, fun c5 => ?_⟩
    · replace H := H.1 c5
      refine wp_aload_n 67 dX8_worked_66 rfl rfl ?_
      refine wp_getR 8 96 70 dX8_worked_67 rfl fl_X8_31 kd_88 rfl rfl rfl rfl ?_
      refine wp_iload_n 71 dX8_worked_70 rfl rfl ?_
      refine wp_iload 73 dX8_worked_71 rfl rfl ?_
      refine wp_if_ne 81 76 dX8_worked_73 rfl rfl ⟨fun c6 => absurd c5 c6, fun c6 => ?_⟩
      refine wp_iload 78 dX8_worked_76 rfl rfl ?_
      refine wp_goto 88 dX8_worked_78 rfl ?_
      have c7 := H.1; replace H := H.2
      refine wp_iast 89 dX8_worked_88 rfl kd_96 c7 ?_
      refine wp_nm (fun h8 eh8 => ?_)
      replace H := H h8 eh8
      refine wp_iinc (1 : Int32) 92 dX8_worked_89 rfl rfl kiconst_1 (Nat.le_of_ble_eq_true rfl) rfl ?_
      refine wp_goto 158 dX8_worked_92 rfl ?_
      refine wp_iinc (1 : Int32) 161 dX8_worked_158 rfl rfl kiconst_1 (Nat.le_of_ble_eq_true rfl) rfl ?_
      refine wp_goto 14 dX8_worked_161 rfl ?_
      refine wp_drop 5 ?_
      refine wp_drop 6 ?_
      exact H
    · replace H := H.2 c5
      refine wp_iload 62 dX8_worked_60 rfl rfl ?_
      refine wp_iconst (1 : Int32) 63 dX8_worked_62 kiconst_1 rfl ?_
      refine wp_icmp_ne 95 66 dX8_worked_63 rfl rfl ⟨fun c9 => ?_, fun c9 => ?_⟩
      · replace H := H.1 c9
        refine wp_iload 97 dX8_worked_95 rfl rfl ?_
        refine wp_iconst (2 : Int32) 98 dX8_worked_97 kiconst_2 rfl ?_
        refine wp_icmp_ne 128 101 dX8_worked_98 rfl rfl ⟨fun c10 => ?_, fun c10 => ?_⟩
        · replace H := H.1 c10
          refine wp_iinc (-1 : Int32) 131 dX8_worked_128 rfl rfl kiconst_m1 (Nat.le_of_ble_eq_true rfl) rfl ?_
          refine wp_aload_n 132 dX8_worked_131 rfl rfl ?_
          refine wp_getR 8 96 135 dX8_worked_132 rfl fl_X8_31 kd_88 rfl rfl rfl rfl ?_
          refine wp_iload_n 136 dX8_worked_135 rfl rfl ?_
          refine wp_iconst (1 : Int32) 137 dX8_worked_136 kiconst_1 rfl ?_
          refine wp_isub 138 dX8_worked_137 rfl ?_
          refine wp_iload 140 dX8_worked_138 rfl rfl ?_
          refine wp_aload_n 141 dX8_worked_140 rfl rfl ?_
          refine wp_getR 8 96 144 dX8_worked_141 rfl fl_X8_31 kd_88 rfl rfl rfl rfl ?_
          refine wp_iload_n 145 dX8_worked_144 rfl rfl ?_
          refine wp_iconst (1 : Int32) 146 dX8_worked_145 kiconst_1 rfl ?_
          refine wp_isub 147 dX8_worked_146 rfl ?_
          have c11 := H.1; replace H := H.2
          refine wp_iald 148 dX8_worked_147 rfl kd_96 c11 ?_
          refine wp_aload_n 149 dX8_worked_148 rfl rfl ?_
          refine wp_getR 8 96 152 dX8_worked_149 rfl fl_X8_31 kd_88 rfl rfl rfl rfl ?_
          refine wp_iload_n 153 dX8_worked_152 rfl rfl ?_
          have c12 := H.1; replace H := H.2
          refine wp_iald 154 dX8_worked_153 rfl kd_96 c12 ?_
          have c13 := H.1; replace H := H.2
          refine wp_cS (d - 1) 3 [.int (h 89 (((v2 + (2 : Int32)) + ((2 : Int32) * v4))).toNatClampNeg), .int (h 96 (((v3 + (-1 : Int32)) - (1 : Int32))).toNatClampNeg), .int (h 96 ((v3 + (-1 : Int32))).toNatClampNeg)] [.int ((v3 + (-1 : Int32)) - (1 : Int32)), .ref 96] 157 dX8_worked_154 rfl (lk_X8_117 rfl) (by omega) rfl rfl (Nat.le_of_ble_eq_true rfl) (sp_X8_joined (by omega) c13 ?_)
          have c14 := H.1; replace H := H.2
          refine wp_iast 158 dX8_worked_157 rfl kd_96 c14 ?_
          refine wp_nm (fun h15 eh15 => ?_)
          replace H := H h15 eh15
          refine wp_iinc (1 : Int32) 161 dX8_worked_158 rfl rfl kiconst_1 (Nat.le_of_ble_eq_true rfl) rfl ?_
          refine wp_goto 14 dX8_worked_161 rfl ?_
          refine wp_drop 5 ?_
          refine wp_drop 6 ?_
          exact H
        · replace H := H.2 c10
          refine wp_aload_n 102 dX8_worked_101 rfl rfl ?_
          refine wp_getR 8 96 105 dX8_worked_102 rfl fl_X8_31 kd_88 rfl rfl rfl rfl ?_
          refine wp_iload_n 106 dX8_worked_105 rfl rfl ?_
          refine wp_iconst (1 : Int32) 107 dX8_worked_106 kiconst_1 rfl ?_
          refine wp_isub 108 dX8_worked_107 rfl ?_
          refine wp_aload_n 109 dX8_worked_108 rfl rfl ?_
          refine wp_getR 8 96 112 dX8_worked_109 rfl fl_X8_31 kd_88 rfl rfl rfl rfl ?_
          refine wp_iload_n 113 dX8_worked_112 rfl rfl ?_
          refine wp_iconst (1 : Int32) 114 dX8_worked_113 kiconst_1 rfl ?_
          refine wp_isub 115 dX8_worked_114 rfl ?_
          have c16 := H.1; replace H := H.2
          refine wp_iald 116 dX8_worked_115 rfl kd_96 c16 ?_
          refine wp_if_ne 123 119 dX8_worked_116 rfl rfl ⟨fun c17 => ?_, fun c17 => ?_⟩
          · replace H := H.1 c17
            refine wp_iconst (0 : Int32) 124 dX8_worked_123 kiconst_0 rfl ?_
            have c18 := H.1; replace H := H.2
            refine wp_iast 125 dX8_worked_124 rfl kd_96 c18 ?_
            refine wp_nm (fun h19 eh19 => ?_)
            replace H := H h19 eh19
            refine wp_goto 158 dX8_worked_125 rfl ?_
            refine wp_iinc (1 : Int32) 161 dX8_worked_158 rfl rfl kiconst_1 (Nat.le_of_ble_eq_true rfl) rfl ?_
            refine wp_goto 14 dX8_worked_161 rfl ?_
            refine wp_drop 5 ?_
            refine wp_drop 6 ?_
            exact H
          · replace H := H.2 c17
            refine wp_iconst (1 : Int32) 120 dX8_worked_119 kiconst_1 rfl ?_
            refine wp_goto 124 dX8_worked_120 rfl ?_
            have c20 := H.1; replace H := H.2
            refine wp_iast 125 dX8_worked_124 rfl kd_96 c20 ?_
            refine wp_nm (fun h21 eh21 => ?_)
            replace H := H h21 eh21
            refine wp_goto 158 dX8_worked_125 rfl ?_
            refine wp_iinc (1 : Int32) 161 dX8_worked_158 rfl rfl kiconst_1 (Nat.le_of_ble_eq_true rfl) rfl ?_
            refine wp_goto 14 dX8_worked_161 rfl ?_
            refine wp_drop 5 ?_
            refine wp_drop 6 ?_
            exact H
      · replace H := H.2 c9
        refine wp_aload_n 67 dX8_worked_66 rfl rfl ?_
        refine wp_getR 8 96 70 dX8_worked_67 rfl fl_X8_31 kd_88 rfl rfl rfl rfl ?_
        refine wp_iload_n 71 dX8_worked_70 rfl rfl ?_
        refine wp_iload 73 dX8_worked_71 rfl rfl ?_
        refine wp_if_ne 81 76 dX8_worked_73 rfl rfl ⟨fun c22 => ?_, fun c22 => absurd c22 c5⟩
        refine wp_aload_n 82 dX8_worked_81 rfl rfl ?_
        refine wp_getR 7 95 85 dX8_worked_82 rfl fl_X8_28 kd_88 rfl rfl rfl rfl ?_
        refine wp_iload 87 dX8_worked_85 rfl rfl ?_
        have c23 := H.1; replace H := H.2
        refine wp_iald 88 dX8_worked_87 rfl kd_95 c23 ?_
        have c24 := H.1; replace H := H.2
        refine wp_iast 89 dX8_worked_88 rfl kd_96 c24 ?_
        refine wp_nm (fun h25 eh25 => ?_)
        replace H := H h25 eh25
        refine wp_iinc (1 : Int32) 92 dX8_worked_89 rfl rfl kiconst_1 (Nat.le_of_ble_eq_true rfl) rfl ?_
        refine wp_goto 158 dX8_worked_92 rfl ?_
        refine wp_iinc (1 : Int32) 161 dX8_worked_158 rfl rfl kiconst_1 (Nat.le_of_ble_eq_true rfl) rfl ?_
        refine wp_goto 14 dX8_worked_161 rfl ?_
        refine wp_drop 5 ?_
        refine wp_drop 6 ?_
        exact H

def kSt1 (it x y z : Int32) (k : Nat) (s : Nat → Int32) : Nat → Int32 :=
  if it = -33 then upd s (k - 1) (if s (k - 1) = 0 then 1 else 0) else if 0 ≤ it then upd s k (kOpd it x y z) else upd s (k - 2) (kJn (-it) (s (k - 2)) (s (k - 1)))
def kSt (c : Nat → Int32) (x y z : Int32) : Nat → Nat → Int32
  | 0 => fun _ => 0
  | n + 1 => match kHt c n with
    | none => kSt c x y z n
    | some k => kSt1 (c n) x y z k (kSt c x y z n)
/-- what a text gives -/
def kVal (c : Nat → Int32) (n : Nat) (x y z : Int32) : Int32 := kSt c x y z n 0
theorem kHt_step {c : Nat → Int32} {n k : Nat} (h : kHt c n = some k) : kHt c (n + 1) = kHt1 (c n) k := by
  show (match kHt c n with | none => none | some k => kHt1 (c n) k) = _
  rw [h]
theorem kSt_step {c : Nat → Int32} {x y z : Int32} {n k : Nat} (h : kHt c n = some k) : kSt c x y z (n + 1) = kSt1 (c n) x y z k (kSt c x y z n) := by
  show (match kHt c n with | none => kSt c x y z n | some k => kSt1 (c n) x y z k (kSt c x y z n)) = _
  rw [h]
theorem kHt_down {c : Nat → Int32} : ∀ (m n k : Nat), kHt c (n + m) = some k → ∃ j, kHt c n = some j
  | 0, n, k, h => ⟨k, h⟩
  | m + 1, n, k, h => by
    cases e : kHt c (n + m) with
    | none =>
      have : kHt c (n + (m + 1)) = none := by
        show (match kHt c (n + m) with | none => none | some k => kHt1 (c (n + m)) k) = _
        rw [e]
      rw [this] at h
      cases h
    | some j => exact kHt_down m n j e
theorem kHt_le {c : Nat → Int32} : ∀ (n k : Nat), kHt c n = some k → k ≤ n
  | 0, k, h => by cases h; exact Nat.le_refl _
  | n + 1, k, h => by
    cases e : kHt c n with
    | none =>
      have : kHt c (n + 1) = none := by
        show (match kHt c n with | none => none | some k => kHt1 (c n) k) = _
        rw [e]
      rw [this] at h
      cases h
    | some j =>
      have ih := kHt_le n j e
      rw [kHt_step e] at h
      unfold kHt1 at h
      split at h
      · split at h
        · cases h; omega
        · cases h
      · split at h
        · cases h; omega
        · split at h
          · cases h; omega
          · cases h
/-- a memory, but in one cell -/
def kIn (h : kM) (c : Nat) (s : Nat → Int32) : kM := fun a => if a = c then s else h a
theorem kIn_eq {h : kM} {c : Nat} {s : Nat → Int32} : kIn h c s c = s := if_pos rfl
theorem kIn_ne {h : kM} {c : Nat} {s : Nat → Int32} {a : Nat} (ha : a ≠ c) : kIn h c s a = h a := if_neg ha
theorem kIn_self (h : kM) (c : Nat) : kIn h c (h c) = h := by
  funext a
  unfold kIn
  split
  · rename_i e; rw [e]
  · rfl
theorem kIn_kU {h : kM} {c j : Nat} {s : Nat → Int32} {x : Int32} : kU (kIn h c s) c j x = kIn h c (upd s j x) := by
  funext a
  unfold kU kIn
  by_cases e : a = c
  · rw [if_pos e, if_pos e, if_pos rfl]
  · rw [if_neg e, if_neg e, if_neg e]
theorem nm1 {k : Nat} (hk : 0 < k) : nI k - 1 = nI (k - 1) := by
  obtain ⟨m, rfl⟩ : ∃ m, k = m + 1 := ⟨k - 1, by omega⟩
  exact nI_pred m
theorem na1 {k : Nat} (hk : 0 < k) : nI k + (-1) = nI (k - 1) := by
  obtain ⟨m, rfl⟩ : ∃ m, k = m + 1 := ⟨k - 1, by omega⟩
  exact pk_m1 m
theorem lp_value (hd : 2 ≤ d) {t : Nat} (kt : kTxt t) {x y z : Int32} {n : Nat} (hn : n ≤ 60) (hlen : h t 2 = nI n) (hwf : kHt (h (t + 1)) n = some 1 ∨ n = 0)
    (k : ∀ s, Q (kVal (h (t + 1)) n x y z) (kIn h (t + 2) s)) : ∀ (m i j : Nat) (s : Nat → Int32), i + m = n → kHt (h (t + 1)) i = some j → (∀ q, q < j → s q = kSt (h (t + 1)) x y z i q) → at_X6_value_6 G d Q t x y z (nI j) (nI i) (kIn h (t + 2) s) := by
  have ht2 : t ≠ t + 2 := by omega
  have ht1 : t + 1 ≠ t + 2 := by omega
  intro m
  induction m with
  | zero =>
    intro i j s him hj hs
    have hi : i = n := by omega
    subst hi
    refine sg_X6_value_6 hd kt ⟨fun _ => ?_, fun q => absurd (by rw [kIn_ne ht2, hlen]; exact nI_le (Nat.le_refl _) (by omega)) q⟩
    rcases hwf with hwf | h0
    · rw [hj] at hwf
      cases hwf
      refine ⟨fun q => absurd q (by decide), fun _ => ?_⟩
      rw [kIn_eq, hs 0 (by decide)]
      exact k s
    · subst h0
      have hj0 : j = 0 := by cases hj; rfl
      subst hj0
      exact ⟨fun _ => k s, fun q => absurd (by decide) q⟩
  | succ m ih =>
    intro i j s him hj hs
    have hin : i < n := by omega
    have hwf : kHt (h (t + 1)) n = some 1 := hwf.resolve_right (by omega)
    have hji := kHt_le i j hj
    obtain ⟨j', hj'⟩ := kHt_down m (i + 1) 1 (by rw [show i + 1 + m = n by omega]; exact hwf)
    have hst := kHt_step hj
    rw [hj'] at hst
    have hss : kSt (h (t + 1)) x y z (i + 1) = kSt1 (h (t + 1) i) x y z j (kSt (h (t + 1)) x y z i) := kSt_step hj
    have hcl : (nI i).toNatClampNeg = i := nI_clamp (by omega)
    have nexti : nI i + 1 = nI (i + 1) := nI_1 i
    refine sg_X6_value_6 hd kt ⟨fun q => absurd (by rw [kIn_ne ht2, hlen]; exact nI_lt hin (by omega)) (len q), fun _ => ⟨vp_in_nI (by omega) (by decide), ?_⟩⟩
    rw [kIn_ne ht1, hcl]
    generalize hit : h (t + 1) i = it at hst hss ⊢
    unfold kHt1 at hst
    unfold kSt1 at hss
    -- the case of a sign of two
    have bin : ¬ it = -33 → it < 0 → ((nI j ≤ 1 → at_X6_value_6 G d Q t x y z (nI j) (nI i + 1) (kIn h (t + 2) s)) ∧ (¬ nI j ≤ 1 → vp_in (nI j + -1 - 1) 60 ∧ vp_in (nI j + -1) 60 ∧ vp_in (nI j + -1 - 1) 60 ∧ ∀ h10 : kM, h10 = kU (kIn h (t + 2) s) (t + 2) (nI j + -1 - 1).toNatClampNeg (kJn (-it) (kIn h (t + 2) s (t + 2) (nI j + -1 - 1).toNatClampNeg) (kIn h (t + 2) s (t + 2) (nI j + -1).toNatClampNeg)) → at_X6_value_6 G d Q t x y z (nI j + -1) (nI i + 1) h10)) := by
      intro n33 hneg
      rw [if_neg n33, if_neg (ltn hneg)] at hst hss
      have hj1 : 1 < j := by
        by_cases e : 1 < j
        · exact e
        · rw [if_neg e] at hst; cases hst
      rw [if_pos hj1] at hst
      cases hst
      rw [na1 (by omega), nm1 (by omega)]
      refine ⟨fun q => absurd (show nI 1 < nI j from nI_lt hj1 (by omega)) (len q), fun _ => ⟨vp_in_nI (by omega) (by decide), vp_in_nI (by omega) (by decide), vp_in_nI (by omega) (by decide), fun h10 e10 => ?_⟩⟩
      rw [nI_clamp (by omega), nI_clamp (by omega), kIn_eq, kIn_kU] at e10
      rw [e10, nexti]
      refine ih (i + 1) (j - 1) _ (by omega) hj' (fun q hq => ?_)
      rw [hss]
      by_cases e : q = j - 1 - 1
      · rw [e, pk_us, show j - 2 = j - 1 - 1 by omega, pk_us, hs (j - 1 - 1) (by omega), hs (j - 1) (by omega)]
      · rw [pk_un e, pk_un (by omega)]
        exact hs q (by omega)
    refine ⟨fun n33 => ⟨fun hneg => bin n33 hneg, fun hnn => ⟨fun q => absurd (show nI j < nI 60 from nI_lt (by omega) (by decide)) (len q), fun _ => ⟨vp_in_nI (by omega) (by decide), fun h18 e18 => ?_⟩⟩⟩, fun e33 => ⟨fun q => ?_, fun _ => ?_⟩⟩
    · rw [if_neg n33, if_pos (nlt hnn)] at hst hss
      cases hst
      rw [nI_clamp (by omega), kIn_kU] at e18
      rw [e18, nexti, nI_1]
      refine ih (i + 1) (j + 1) _ (by omega) hj' (fun q hq => ?_)
      rw [hss]
      by_cases e : q = j
      · rw [e, pk_us, pk_us]
      · rw [pk_un e, pk_un e]
        exact hs q (by omega)
    · exfalso
      rw [if_pos e33] at hst
      have hj0 : 0 < j := by
        by_cases e : 0 < j
        · exact e
        · rw [if_neg e] at hst; cases hst
      exact absurd (show nI 0 < nI j from nI_lt hj0 (by omega)) (len q)
    · rw [if_pos e33] at hst hss
      have hj0 : 0 < j := by
        by_cases e : 0 < j
        · exact e
        · rw [if_neg e] at hst; cases hst
      rw [if_pos hj0] at hst
      cases hst
      rw [nm1 hj0, nI_clamp (by omega), kIn_eq]
      have key : ∀ v, (v = if s (j - 1) = 0 then (1 : Int32) else 0) → at_X6_value_6 G d Q t x y z (nI j) (nI i + 1) (kU (kIn h (t + 2) s) (t + 2) (j - 1) v) := by
        intro v hv
        rw [kIn_kU, nexti]
        refine ih (i + 1) j _ (by omega) hj' (fun q hq => ?_)
        rw [hss, hv, ← hs (j - 1) (by omega)]
        by_cases e : q = j - 1
        · rw [e, pk_us, pk_us]
        · rw [pk_un e, pk_un e]
          exact hs q (by omega)
      have hin2 : vp_in (nI (j - 1)) 60 := vp_in_nI (by omega) (by decide)
      refine ⟨hin2, fun c => ⟨hin2, fun h37 e37 => ?_⟩, fun c => ⟨hin2, fun h37 e37 => ?_⟩⟩
      · rw [e37]
        exact key 0 (by rw [if_neg c])
      · rw [e37]
        exact key 1 (by rw [if_pos c])
/-- a Text's value -/
theorem sp1_X6_value (hd : 2 ≤ d) {t : Nat} (kt : kTxt t) {x y z : Int32} {n : Nat} (hn : n ≤ 60) (hlen : h t 2 = nI n) (hwf : kHt (h (t + 1)) n = some 1 ∨ n = 0) (k : ∀ s, Q (kVal (h (t + 1)) n x y z) (kIn h (t + 2) s)) : Cal G d m_X6_value [.ref t, .int x, .int y, .int z] h Q := by
  refine cg_X6_value hd kt ?_
  have h1 := lp_value (G := G) hd kt hn hlen hwf k n 0 0 (h (t + 2)) (by omega) rfl (fun q hq => absurd hq (Nat.not_lt_zero q))
  rw [kIn_self] at h1
  exact h1
/-- names as they are told, in the row of the model -/
def kNmd (u : Int32) (nm : Nat → Int32) (x y z : Int32) : Prop := if u = 0 then nm 104 = x ∧ nm 119 = y ∧ nm 109 = z else nm 107 = x ∧ nm 109 = y ∧ nm 110 = z
theorem kOpd_num {v x y z : Int32} (h1 : v ≤ 9999) : kOpd v x y z = v := by
  have hv : ∀ c : Int32, 0 ≤ c → c ≤ 2 → ¬ v - 10000 = c := by
    intro c h2 h3 e
    have e2 : v = c + 10000 := by rw [← e, Int32.sub_add_cancel]
    rw [e2, Int32.le_iff_toInt_le, Int32.toInt_add] at h1
    rw [Int32.le_iff_toInt_le] at h2 h3
    have a1 : (0 : Int32).toInt = 0 := rfl
    have a2 : (2 : Int32).toInt = 2 := rfl
    have a3 : (9999 : Int32).toInt = 9999 := rfl
    have a4 : (10000 : Int32).toInt = 10000 := rfl
    rw [a1] at h2
    rw [a2] at h3
    rw [a3, a4, Int.bmod_eq_of_le (by omega) (by omega)] at h1
    omega
  unfold kOpd
  rw [if_neg (hv 0 (by decide) (by decide)), if_neg (hv 1 (by decide) (by decide)), if_neg (hv 2 (by decide) (by decide))]
theorem kOpd_name {u v x y z : Int32} {nm : Nat → Int32} (hn : mNm u v) (hm : kNmd u nm x y z) : vp_in v 128 ∧ kOpd (10000 + kNmI u v) x y z = nm v.toNatClampNeg ∧ ¬ 10000 + kNmI u v = -33 ∧ 0 ≤ 10000 + kNmI u v := by
  unfold kNmd at hm
  unfold kNmI kOpd
  rcases hn with rfl | ⟨rfl, rfl | rfl⟩ | ⟨hu, rfl | rfl⟩
  · by_cases e : u = 0
    · rw [if_pos e] at hm ⊢
      exact ⟨by unfold vp_in; decide, hm.2.2.symm, by decide, by decide⟩
    · rw [if_neg e] at hm ⊢
      exact ⟨by unfold vp_in; decide, hm.2.1.symm, by decide, by decide⟩
  · exact ⟨by unfold vp_in; decide, hm.1.symm, by decide, by decide⟩
  · exact ⟨by unfold vp_in; decide, hm.2.1.symm, by decide, by decide⟩
  · rw [if_neg hu] at hm ⊢
    exact ⟨by unfold vp_in; decide, hm.1.symm, by decide, by decide⟩
  · rw [if_neg hu] at hm ⊢
    exact ⟨by unfold vp_in; decide, hm.2.2.symm, by decide, by decide⟩
theorem kEnc_sign {v : Int32} (hv : kSgn v) : ¬ -v = -33 ∧ ¬ 0 ≤ -v ∧ - -v = v := by
  rcases hv with rfl | rfl | rfl | rfl | rfl | rfl | rfl | rfl | rfl | rfl <;> exact ⟨by decide, by decide, by decide⟩
theorem ixT (b i w : Nat) : nI b + nI w + 2 * nI i = nI (b + w + 2 * i) := by
  show nI b + nI w + nI 2 * nI i = _
  rw [pk_mul, nI_add, nI_add]
theorem lp_worked (hd : 2 ≤ d) {u uu : Int32} {b : Nat} (hb : b = 147 ∨ b = 272) {c : Nat → Int32} {x y z : Int32} {n : Nat} (hn : n ≤ 60) (hlen : h 89 b = nI n) (hwf : kHt c n = some 1) (htok : ∀ i, i < n → kTokOk u (h 89 (b + 1 + 2 * i)) (h 89 (b + 2 + 2 * i)) ∧ c i = kEnc u (h 89 (b + 1 + 2 * i)) (h 89 (b + 2 + 2 * i))) (hm : kNmd u (h 95) x y z)
    (k : ∀ s, Q (kVal c n x y z) (kIn h 96 s)) : ∀ (m i j : Nat) (s : Nat → Int32), i + m = n → kHt c i = some j → (∀ q, q < j → s q = kSt c x y z i q) → at_X8_worked_14 G d Q uu (nI b) (nI j) (nI i) (kIn h 96 s) := by
  intro m
  induction m with
  | zero =>
    intro i j s him hj hs
    have hi : i = n := by omega
    subst hi
    have hcb : (nI b).toNatClampNeg = b := nI_clamp (by omega)
    refine sg_X8_worked_14 hd ⟨vp_in_nI (by omega) (by decide), fun _ => ?_, fun q => absurd (by rw [kIn_ne (by decide), hcb, hlen]; exact nI_le (Nat.le_refl _) (by omega)) q⟩
    rw [hj] at hwf
    cases hwf
    rw [kIn_eq, hs 0 (by decide)]
    exact k s
  | succ m ih =>
    intro i j s him hj hs
    have hin : i < n := by omega
    have hji := kHt_le i j hj
    obtain ⟨j', hj'⟩ := kHt_down m (i + 1) 1 (by rw [show i + 1 + m = n by omega]; exact hwf)
    have hst := kHt_step hj
    rw [hj'] at hst
    have hss : kSt c x y z (i + 1) = kSt1 (c i) x y z j (kSt c x y z i) := kSt_step hj
    have hcb : (nI b).toNatClampNeg = b := nI_clamp (by omega)
    have nexti : nI i + 1 = nI (i + 1) := nI_1 i
    have ix1 : nI b + 1 + 2 * nI i = nI (b + 1 + 2 * i) := ixT b i 1
    have ix2 : nI b + 2 + 2 * nI i = nI (b + 2 + 2 * i) := ixT b i 2
    have cl1 : (nI (b + 1 + 2 * i)).toNatClampNeg = b + 1 + 2 * i := nI_clamp (by omega)
    have cl2 : (nI (b + 2 + 2 * i)).toNatClampNeg = b + 2 + 2 * i := nI_clamp (by omega)
    obtain ⟨hok, henc⟩ := htok i hin
    refine sg_X8_worked_14 hd ⟨vp_in_nI (by omega) (by decide), fun q => absurd (by rw [kIn_ne (by decide), hcb, hlen]; exact nI_lt hin (by omega)) (len q), fun _ => ⟨by rw [ix1]; exact vp_in_nI (by omega) (by decide), by rw [ix2]; exact vp_in_nI (by omega) (by decide), ?_⟩⟩
    rw [ix1, ix2, cl1, cl2, kIn_ne (by decide), kIn_eq, kIn_ne (by decide)]
    generalize hw : h 89 (b + 1 + 2 * i) = w at hok henc ⊢
    generalize hv : h 89 (b + 2 + 2 * i) = v at hok henc ⊢
    generalize hit : c i = it at hst hss henc
    unfold kHt1 at hst
    unfold kSt1 at hss
    have push : ¬ it = -33 → 0 ≤ it → ∀ r, kOpd it x y z = r → vp_in (nI j) 64 ∧ ∀ h8 : kM, h8 = kU (kIn h 96 s) 96 (nI j).toNatClampNeg r → at_X8_worked_14 G d Q uu (nI b) (nI j + 1) (nI i + 1) h8 := by
      intro n33 hnn r hr
      rw [if_neg n33, if_pos hnn] at hst hss
      cases hst
      refine ⟨vp_in_nI (by omega) (by decide), fun h8 e8 => ?_⟩
      rw [nI_clamp (by omega), kIn_kU] at e8
      rw [e8, nexti, nI_1]
      refine ih (i + 1) (j + 1) _ (by omega) hj' (fun q hq => ?_)
      rw [hss, hr]
      by_cases e : q = j
      · rw [e, pk_us, pk_us]
      · rw [pk_un e, pk_un e]
        exact hs q (by omega)
    rcases hok with ⟨rfl, v0, v9⟩ | ⟨rfl, hnm⟩ | rfl | ⟨rfl, hsg⟩
    · have e1 : it = v := by rw [henc]; rfl
      subst e1
      have n33 : ¬ it = -33 := fun q => absurd v0 (by rw [q]; decide)
      obtain ⟨p1, p2⟩ := push n33 v0 it (kOpd_num v9)
      exact ⟨fun _ => ⟨p1, p2⟩, fun q => absurd rfl q⟩
    · obtain ⟨o1, o2, o3, o4⟩ := kOpd_name (z := z) hnm hm
      have e1 : it = 10000 + kNmI u v := by rw [henc]; rfl
      obtain ⟨p1, p2⟩ := push (by rw [e1]; exact o3) (by rw [e1]; exact o4) (h 95 v.toNatClampNeg) (by rw [e1]; exact o2)
      exact ⟨fun q => absurd q (by decide), fun _ => ⟨fun q => absurd rfl q, fun _ => ⟨o1, p1, p2⟩⟩⟩
    · have e33 : it = -33 := by rw [henc]; rfl
      rw [if_pos e33] at hst hss
      have hj0 : 0 < j := by
        by_cases e : 0 < j
        · exact e
        · rw [if_neg e] at hst; cases hst
      rw [if_pos hj0] at hst
      cases hst
      rw [nm1 hj0, nI_clamp (n := j - 1) (by omega)]
      have key : ∀ v, (v = if s (j - 1) = 0 then (1 : Int32) else 0) → at_X8_worked_14 G d Q uu (nI b) (nI j) (nI i + 1) (kU (kIn h 96 s) 96 (j - 1) v) := by
        intro v hv
        rw [kIn_kU, nexti]
        refine ih (i + 1) j _ (by omega) hj' (fun q hq => ?_)
        rw [hss, hv, ← hs (j - 1) (by omega)]
        by_cases e : q = j - 1
        · rw [e, pk_us, pk_us]
        · rw [pk_un e, pk_un e]
          exact hs q (by omega)
      have hin2 : vp_in (nI (j - 1)) 64 := vp_in_nI (by omega) (by decide)
      refine ⟨fun q => absurd q (by decide), fun _ => ⟨fun _ => ⟨fun q => absurd rfl q, fun _ => ⟨hin2, fun cc => ⟨hin2, fun h37 e37 => ?_⟩, fun cc => ⟨hin2, fun h37 e37 => ?_⟩⟩⟩, fun q => absurd q (by decide)⟩⟩
      · rw [e37]
        exact key 0 (by rw [if_neg cc])
      · rw [e37]
        exact key 1 (by rw [if_pos cc])
    · obtain ⟨g1, g2, g3⟩ := kEnc_sign hsg
      have e1 : it = -v := by rw [henc]; rfl
      rw [if_neg (by rw [e1]; exact g1), if_neg (by rw [e1]; exact g2)] at hst hss
      have hj1 : 1 < j := by
        by_cases e : 1 < j
        · exact e
        · rw [if_neg e] at hst; cases hst
      rw [if_pos hj1] at hst
      cases hst
      rw [na1 (by omega), nm1 (by omega)]
      refine ⟨fun q => absurd q (by decide), fun _ => ⟨fun _ => ⟨fun _ => ⟨vp_in_nI (by omega) (by decide), vp_in_nI (by omega) (by decide), hsg, vp_in_nI (by omega) (by decide), fun h10 e10 => ?_⟩, fun q => absurd q (by decide)⟩, fun q => absurd q (by decide)⟩⟩
      rw [nI_clamp (by omega), nI_clamp (by omega), kIn_kU] at e10
      rw [e10, nexti]
      refine ih (i + 1) (j - 1) _ (by omega) hj' (fun q hq => ?_)
      rw [hss, e1, g3]
      by_cases e : q = j - 1 - 1
      · rw [e, pk_us, show j - 2 = j - 1 - 1 by omega, pk_us, hs (j - 1 - 1) (by omega), hs (j - 1) (by omega)]
      · rw [pk_un e, pk_un (by omega)]
        exact hs q (by omega)
end Eval

