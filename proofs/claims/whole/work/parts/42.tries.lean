/-! soonest: the model's ways, tried -/
section Tries
variable {G : kG} {d : Nat} {Q : Int32 → kM → Prop} {h : kM}
def mLA (w i : Int32) : Int32 := if iR w 12 = i then 0 else if iR (w / 12) 12 = i then 1 else if iR (w / 12 / 12) 12 = i then 2 else 3
abbrev mIsW (w : Int32) : Prop := (iR w 12 = 11 ∨ (¬ iR w 12 = iR (w / 12) 12 ∧ ¬ iR w 12 = w / 144)) ∧ (iR (w / 12) 12 = 11 ∨ ¬ iR (w / 12) 12 = w / 144) ∧ ¬ iR w 12 = 10 ∧ ¬ iR (w / 12) 12 = 10 ∧ ¬ w / 144 = 10
def at_X8_loosedAt_4 (G : kG) (d : Nat) (Q : Int32 → kM → Prop)  (v0 : Int32) (v1 : Int32) (v2 : Int32) (v3 : Int32) (h : kM) : Prop := Wp G d m_X8_loosedAt (kEo G d m_X8_loosedAt Q) 4 [.int v0, .int v1, .int v2, .int v3] [] h
theorem sg_X8_loosedAt_0 {G : kG} {d : Nat} {Q : Int32 → kM → Prop}  {a1 : Int32} {a2 : Int32} {h : kM} (hd : 1 ≤ d)  (H :
    at_X8_loosedAt_4 G d Q a1 a2 a1 (0 : Int32) h) : Wp G d m_X8_loosedAt (kEo G d m_X8_loosedAt Q) 0 [.int a1, .int a2, .null, .null] [] h := by
  refine wp_iload_n 1 dX8_loosedAt_0 rfl rfl ?_
  refine wp_istore_n 2 dX8_loosedAt_1 rfl (Nat.le_of_ble_eq_true rfl) rfl ?_
  refine wp_iconst (0 : Int32) 3 dX8_loosedAt_2 kiconst_0 rfl ?_
  refine wp_istore_n 4 dX8_loosedAt_3 rfl (Nat.le_of_ble_eq_true rfl) rfl ?_
  exact H

theorem cg_X8_loosedAt {G : kG} {d : Nat} {Q : Int32 → kM → Prop}  {a1 : Int32} {a2 : Int32} {h : kM} (hd : 1 ≤ d)  (H :
    at_X8_loosedAt_4 G d Q a1 a2 a1 (0 : Int32) h) : Cal G d m_X8_loosedAt [.int a1, .int a2] h Q :=
  Cal.of [.int a1, .int a2, .null, .null] (by decide +kernel) (Nat.le_of_ble_eq_true rfl) rfl (sg_X8_loosedAt_0 hd  H)

theorem sg_X8_loosedAt_4 {G : kG} {d : Nat} {Q : Int32 → kM → Prop}  {v0 : Int32} {v1 : Int32} {v2 : Int32} {v3 : Int32} {h : kM} (hd : 1 ≤ d)  (H :
    (((3 : Int32) ≤ v3 →
      Q (3 : Int32) h
    ) ∧ (¬ ((3 : Int32) ≤ v3) →
      ((¬ (v2 - v2 / (12 : Int32) * (12 : Int32)) = v1 →
        at_X8_loosedAt_4 G d Q v0 v1 (v2 / (12 : Int32)) (v3 + (1 : Int32)) h
      ) ∧ ((v2 - v2 / (12 : Int32) * (12 : Int32)) = v1 →
        Q v3 h
      ))
    ))) : at_X8_loosedAt_4 G d Q v0 v1 v2 v3 h := by
  show Wp G d m_X8_loosedAt (kEo G d m_X8_loosedAt Q) 4 [.int v0, .int v1, .int v2, .int v3] [] h
  refine wp_iload_n 5 dX8_loosedAt_4 rfl rfl ?_
  refine wp_iconst (3 : Int32) 6 dX8_loosedAt_5 kiconst_3 rfl ?_
  refine wp_icmp_ge 30 9 dX8_loosedAt_6 rfl rfl ⟨fun c1 => ?_, fun c1 => ?_⟩
  · replace H := H.1 c1
    refine wp_iconst (3 : Int32) 31 dX8_loosedAt_30 kiconst_3 rfl ?_
    exact wp_reti dX8_loosedAt_31 rfl H
  · replace H := H.2 c1
    refine wp_iload_n 10 dX8_loosedAt_9 rfl rfl ?_
    refine wp_bipush (12 : Int32) 12 dX8_loosedAt_10 kbipush_12 rfl ?_
    refine wp_irem 13 dX8_loosedAt_12 (by decide) rfl ?_
    refine wp_iload_n 14 dX8_loosedAt_13 rfl rfl ?_
    refine wp_icmp_ne 19 17 dX8_loosedAt_14 rfl rfl ⟨fun c2 => ?_, fun c2 => ?_⟩
    · replace H := H.1 c2
      refine wp_iload_n 20 dX8_loosedAt_19 rfl rfl ?_
      refine wp_bipush (12 : Int32) 22 dX8_loosedAt_20 kbipush_12 rfl ?_
      refine wp_idiv 23 dX8_loosedAt_22 (by decide) rfl ?_
      refine wp_istore_n 24 dX8_loosedAt_23 rfl (Nat.le_of_ble_eq_true rfl) rfl ?_
      refine wp_iinc (1 : Int32) 27 dX8_loosedAt_24 rfl rfl kiconst_1 (Nat.le_of_ble_eq_true rfl) rfl ?_
      refine wp_goto 4 dX8_loosedAt_27 rfl ?_
      exact H
    · replace H := H.2 c2
      refine wp_iload_n 18 dX8_loosedAt_17 rfl rfl ?_
      exact wp_reti dX8_loosedAt_18 rfl H

def at_X8_isWay_35 (G : kG) (d : Nat) (Q : Int32 → kM → Prop)  (v0 : Int32) (v1 : Int32) (v2 : Int32) (v3 : Int32) (h : kM) : Prop := Wp G d m_X8_isWay (kEo G d m_X8_isWay Q) 35 [.int v0, .int v1, .int v2, .int v3] [] h
def at_X8_isWay_46 (G : kG) (d : Nat) (Q : Int32 → kM → Prop)  (v0 : Int32) (v1 : Int32) (v2 : Int32) (v3 : Int32) (h : kM) : Prop := Wp G d m_X8_isWay (kEo G d m_X8_isWay Q) 46 [.int v0, .int v1, .int v2, .int v3] [] h
def at_X8_isWay_68 (G : kG) (d : Nat) (Q : Int32 → kM → Prop)  (v0 : Int32) (v1 : Int32) (v2 : Int32) (v3 : Int32) (h : kM) : Prop := Wp G d m_X8_isWay (kEo G d m_X8_isWay Q) 68 [.int v0, .int v1, .int v2, .int v3] [] h
theorem sg_X8_isWay_0 {G : kG} {d : Nat} {Q : Int32 → kM → Prop}  {a1 : Int32} {h : kM} (hd : 1 ≤ d)  (H :
    (((a1 - a1 / (12 : Int32) * (12 : Int32)) = (11 : Int32) →
      at_X8_isWay_35 G d Q a1 (a1 - a1 / (12 : Int32) * (12 : Int32)) ((a1 / (12 : Int32)) - (a1 / (12 : Int32)) / (12 : Int32) * (12 : Int32)) (a1 / (144 : Int32)) h
    ) ∧ (¬ ((a1 - a1 / (12 : Int32) * (12 : Int32)) = (11 : Int32)) →
      (((a1 - a1 / (12 : Int32) * (12 : Int32)) = ((a1 / (12 : Int32)) - (a1 / (12 : Int32)) / (12 : Int32) * (12 : Int32)) →
        at_X8_isWay_68 G d Q a1 (a1 - a1 / (12 : Int32) * (12 : Int32)) ((a1 / (12 : Int32)) - (a1 / (12 : Int32)) / (12 : Int32) * (12 : Int32)) (a1 / (144 : Int32)) h
      ) ∧ (¬ ((a1 - a1 / (12 : Int32) * (12 : Int32)) = ((a1 / (12 : Int32)) - (a1 / (12 : Int32)) / (12 : Int32) * (12 : Int32))) →
        (((a1 - a1 / (12 : Int32) * (12 : Int32)) = (a1 / (144 : Int32)) →
          at_X8_isWay_68 G d Q a1 (a1 - a1 / (12 : Int32) * (12 : Int32)) ((a1 / (12 : Int32)) - (a1 / (12 : Int32)) / (12 : Int32) * (12 : Int32)) (a1 / (144 : Int32)) h
        ) ∧ (¬ ((a1 - a1 / (12 : Int32) * (12 : Int32)) = (a1 / (144 : Int32))) →
          at_X8_isWay_35 G d Q a1 (a1 - a1 / (12 : Int32) * (12 : Int32)) ((a1 / (12 : Int32)) - (a1 / (12 : Int32)) / (12 : Int32) * (12 : Int32)) (a1 / (144 : Int32)) h
        ))
      ))
    ))) : Wp G d m_X8_isWay (kEo G d m_X8_isWay Q) 0 [.int a1, .null, .null, .null] [] h := by
  refine wp_iload_n 1 dX8_isWay_0 rfl rfl ?_
  refine wp_bipush (12 : Int32) 3 dX8_isWay_1 kbipush_12 rfl ?_
  refine wp_irem 4 dX8_isWay_3 (by decide) rfl ?_
  refine wp_istore_n 5 dX8_isWay_4 rfl (Nat.le_of_ble_eq_true rfl) rfl ?_
  refine wp_iload_n 6 dX8_isWay_5 rfl rfl ?_
  refine wp_bipush (12 : Int32) 8 dX8_isWay_6 kbipush_12 rfl ?_
  refine wp_idiv 9 dX8_isWay_8 (by decide) rfl ?_
  refine wp_bipush (12 : Int32) 11 dX8_isWay_9 kbipush_12 rfl ?_
  refine wp_irem 12 dX8_isWay_11 (by decide) rfl ?_
  refine wp_istore_n 13 dX8_isWay_12 rfl (Nat.le_of_ble_eq_true rfl) rfl ?_
  refine wp_iload_n 14 dX8_isWay_13 rfl rfl ?_
  refine wp_sipush (144 : Int32) 17 dX8_isWay_14 ksipush_144 rfl ?_
  refine wp_idiv 18 dX8_isWay_17 (by decide) rfl ?_
  refine wp_istore_n 19 dX8_isWay_18 rfl (Nat.le_of_ble_eq_true rfl) rfl ?_
  refine wp_iload_n 20 dX8_isWay_19 rfl rfl ?_
  refine wp_bipush (11 : Int32) 22 dX8_isWay_20 kbipush_11 rfl ?_
  refine wp_icmp_eq 35 25 dX8_isWay_22 rfl rfl ⟨fun c1 => ?_, fun c1 => ?_⟩
  · replace H := H.1 c1
    exact H
  · replace H := H.2 c1
    refine wp_iload_n 26 dX8_isWay_25 rfl rfl ?_
    refine wp_iload_n 27 dX8_isWay_26 rfl rfl ?_
    refine wp_icmp_eq 68 30 dX8_isWay_27 rfl rfl ⟨fun c2 => ?_, fun c2 => ?_⟩
    · replace H := H.1 c2
      exact H
    · replace H := H.2 c2
      refine wp_iload_n 31 dX8_isWay_30 rfl rfl ?_
      refine wp_iload_n 32 dX8_isWay_31 rfl rfl ?_
      refine wp_icmp_eq 68 35 dX8_isWay_32 rfl rfl ⟨fun c3 => ?_, fun c3 => ?_⟩
      · replace H := H.1 c3
        exact H
      · replace H := H.2 c3
        exact H

theorem cg_X8_isWay {G : kG} {d : Nat} {Q : Int32 → kM → Prop}  {a1 : Int32} {h : kM} (hd : 1 ≤ d)  (H :
    (((a1 - a1 / (12 : Int32) * (12 : Int32)) = (11 : Int32) →
      at_X8_isWay_35 G d Q a1 (a1 - a1 / (12 : Int32) * (12 : Int32)) ((a1 / (12 : Int32)) - (a1 / (12 : Int32)) / (12 : Int32) * (12 : Int32)) (a1 / (144 : Int32)) h
    ) ∧ (¬ ((a1 - a1 / (12 : Int32) * (12 : Int32)) = (11 : Int32)) →
      (((a1 - a1 / (12 : Int32) * (12 : Int32)) = ((a1 / (12 : Int32)) - (a1 / (12 : Int32)) / (12 : Int32) * (12 : Int32)) →
        at_X8_isWay_68 G d Q a1 (a1 - a1 / (12 : Int32) * (12 : Int32)) ((a1 / (12 : Int32)) - (a1 / (12 : Int32)) / (12 : Int32) * (12 : Int32)) (a1 / (144 : Int32)) h
      ) ∧ (¬ ((a1 - a1 / (12 : Int32) * (12 : Int32)) = ((a1 / (12 : Int32)) - (a1 / (12 : Int32)) / (12 : Int32) * (12 : Int32))) →
        (((a1 - a1 / (12 : Int32) * (12 : Int32)) = (a1 / (144 : Int32)) →
          at_X8_isWay_68 G d Q a1 (a1 - a1 / (12 : Int32) * (12 : Int32)) ((a1 / (12 : Int32)) - (a1 / (12 : Int32)) / (12 : Int32) * (12 : Int32)) (a1 / (144 : Int32)) h
        ) ∧ (¬ ((a1 - a1 / (12 : Int32) * (12 : Int32)) = (a1 / (144 : Int32))) →
          at_X8_isWay_35 G d Q a1 (a1 - a1 / (12 : Int32) * (12 : Int32)) ((a1 / (12 : Int32)) - (a1 / (12 : Int32)) / (12 : Int32) * (12 : Int32)) (a1 / (144 : Int32)) h
        ))
      ))
    ))) : Cal G d m_X8_isWay [.int a1] h Q :=
  Cal.of [.int a1, .null, .null, .null] (by decide +kernel) (Nat.le_of_ble_eq_true rfl) rfl (sg_X8_isWay_0 hd  H)

theorem sg_X8_isWay_35 {G : kG} {d : Nat} {Q : Int32 → kM → Prop}  {v0 : Int32} {v1 : Int32} {v2 : Int32} {v3 : Int32} {h : kM} (hd : 1 ≤ d)  (H :
    ((v2 = (11 : Int32) →
      at_X8_isWay_46 G d Q v0 v1 v2 v3 h
    ) ∧ (¬ (v2 = (11 : Int32)) →
      ((v2 = v3 →
        at_X8_isWay_68 G d Q v0 v1 v2 v3 h
      ) ∧ (¬ (v2 = v3) →
        at_X8_isWay_46 G d Q v0 v1 v2 v3 h
      ))
    ))) : at_X8_isWay_35 G d Q v0 v1 v2 v3 h := by
  show Wp G d m_X8_isWay (kEo G d m_X8_isWay Q) 35 [.int v0, .int v1, .int v2, .int v3] [] h
  refine wp_iload_n 36 dX8_isWay_35 rfl rfl ?_
  refine wp_bipush (11 : Int32) 38 dX8_isWay_36 kbipush_11 rfl ?_
  refine wp_icmp_eq 46 41 dX8_isWay_38 rfl rfl ⟨fun c1 => ?_, fun c1 => ?_⟩
  · replace H := H.1 c1
    exact H
  · replace H := H.2 c1
    refine wp_iload_n 42 dX8_isWay_41 rfl rfl ?_
    refine wp_iload_n 43 dX8_isWay_42 rfl rfl ?_
    refine wp_icmp_eq 68 46 dX8_isWay_43 rfl rfl ⟨fun c2 => ?_, fun c2 => ?_⟩
    · replace H := H.1 c2
      exact H
    · replace H := H.2 c2
      exact H

theorem sg_X8_isWay_46 {G : kG} {d : Nat} {Q : Int32 → kM → Prop}  {v0 : Int32} {v1 : Int32} {v2 : Int32} {v3 : Int32} {h : kM} (hd : 1 ≤ d)  (H :
    ((v1 = (10 : Int32) →
      at_X8_isWay_68 G d Q v0 v1 v2 v3 h
    ) ∧ (¬ (v1 = (10 : Int32)) →
      ((v2 = (10 : Int32) →
        at_X8_isWay_68 G d Q v0 v1 v2 v3 h
      ) ∧ (¬ (v2 = (10 : Int32)) →
        ((v3 = (10 : Int32) →
          at_X8_isWay_68 G d Q v0 v1 v2 v3 h
        ) ∧ (¬ (v3 = (10 : Int32)) →
          Q (1 : Int32) h
        ))
      ))
    ))) : at_X8_isWay_46 G d Q v0 v1 v2 v3 h := by
  show Wp G d m_X8_isWay (kEo G d m_X8_isWay Q) 46 [.int v0, .int v1, .int v2, .int v3] [] h
  refine wp_iload_n 47 dX8_isWay_46 rfl rfl ?_
  refine wp_bipush (10 : Int32) 49 dX8_isWay_47 kbipush_10 rfl ?_
  refine wp_icmp_eq 68 52 dX8_isWay_49 rfl rfl ⟨fun c1 => ?_, fun c1 => ?_⟩
  · replace H := H.1 c1
    exact H
  · replace H := H.2 c1
    refine wp_iload_n 53 dX8_isWay_52 rfl rfl ?_
    refine wp_bipush (10 : Int32) 55 dX8_isWay_53 kbipush_10 rfl ?_
    refine wp_icmp_eq 68 58 dX8_isWay_55 rfl rfl ⟨fun c2 => ?_, fun c2 => ?_⟩
    · replace H := H.1 c2
      exact H
    · replace H := H.2 c2
      refine wp_iload_n 59 dX8_isWay_58 rfl rfl ?_
      refine wp_bipush (10 : Int32) 61 dX8_isWay_59 kbipush_10 rfl ?_
      refine wp_icmp_eq 68 64 dX8_isWay_61 rfl rfl ⟨fun c3 => ?_, fun c3 => ?_⟩
      · replace H := H.1 c3
        exact H
      · replace H := H.2 c3
        refine wp_iconst (1 : Int32) 65 dX8_isWay_64 kiconst_1 rfl ?_
        refine wp_goto 69 dX8_isWay_65 rfl ?_
        exact wp_retz dX8_isWay_69 rfl (Or.inr rfl) H

theorem sg_X8_isWay_68 {G : kG} {d : Nat} {Q : Int32 → kM → Prop}  {v0 : Int32} {v1 : Int32} {v2 : Int32} {v3 : Int32} {h : kM} (hd : 1 ≤ d)  (H :
    Q (0 : Int32) h) : at_X8_isWay_68 G d Q v0 v1 v2 v3 h := by
  show Wp G d m_X8_isWay (kEo G d m_X8_isWay Q) 68 [.int v0, .int v1, .int v2, .int v3] [] h
  refine wp_iconst (0 : Int32) 69 dX8_isWay_68 kiconst_0 rfl ?_
  exact wp_retz dX8_isWay_69 rfl (Or.inl rfl) H

theorem sp_X8_loosedAt (hd : 1 ≤ d) {w i : Int32} (k : Q (mLA w i) h) : Cal G d m_X8_loosedAt [.int w, .int i] h Q := by
  unfold mLA at k
  refine cg_X8_loosedAt hd (sg_X8_loosedAt_4 hd ⟨fun z => absurd z (by decide), fun _ => ⟨fun n0 => ?_, fun e0 => ?_⟩⟩)
  · rw [if_neg (show ¬ iR w 12 = i from n0)] at k
    rw [show (0 : Int32) + 1 = 1 by decide]
    refine sg_X8_loosedAt_4 hd ⟨fun z => absurd z (by decide), fun _ => ⟨fun n1 => ?_, fun e1 => ?_⟩⟩
    · rw [if_neg (show ¬ iR (w / 12) 12 = i from n1)] at k
      rw [show (1 : Int32) + 1 = 2 by decide]
      refine sg_X8_loosedAt_4 hd ⟨fun z => absurd z (by decide), fun _ => ⟨fun n2 => ?_, fun e2 => ?_⟩⟩
      · rw [if_neg (show ¬ iR (w / 12 / 12) 12 = i from n2)] at k
        rw [show (2 : Int32) + 1 = 3 by decide]
        exact sg_X8_loosedAt_4 hd ⟨fun _ => k, fun z => absurd (by decide) z⟩
      · rw [if_pos (show iR (w / 12 / 12) 12 = i from e2)] at k
        exact k
    · rw [if_pos (show iR (w / 12) 12 = i from e1)] at k
      exact k
  · rw [if_pos (show iR w 12 = i from e0)] at k
    exact k
theorem sp_X8_isWay (hd : 1 ≤ d) {w : Int32} (k : Q (kb (mIsW w)) h) : Cal G d m_X8_isWay [.int w] h Q := by
  have f68 : ∀ x y z, ¬ mIsW w → at_X8_isWay_68 G d Q w x y z h := fun x y z no => sg_X8_isWay_68 hd (kq0 k no)
  have a46 : (iR w 12 = 11 ∨ (¬ iR w 12 = iR (w / 12) 12 ∧ ¬ iR w 12 = w / 144)) → (iR (w / 12) 12 = 11 ∨ ¬ iR (w / 12) 12 = w / 144) → at_X8_isWay_46 G d Q w (iR w 12) (iR (w / 12) 12) (w / 144) h := fun h1 h2 =>
    sg_X8_isWay_46 hd ⟨fun e => f68 _ _ _ (fun q => q.2.2.1 e), fun n1 => ⟨fun e => f68 _ _ _ (fun q => q.2.2.2.1 e), fun n2 => ⟨fun e => f68 _ _ _ (fun q => q.2.2.2.2 e), fun n3 => kq1 k ⟨h1, h2, n1, n2, n3⟩⟩⟩⟩
  have a35 : (iR w 12 = 11 ∨ (¬ iR w 12 = iR (w / 12) 12 ∧ ¬ iR w 12 = w / 144)) → at_X8_isWay_35 G d Q w (iR w 12) (iR (w / 12) 12) (w / 144) h := fun h1 =>
    sg_X8_isWay_35 hd ⟨fun e => a46 h1 (Or.inl e), fun n => ⟨fun e => f68 _ _ _ (fun q => q.2.1.elim n (fun x => x e)), fun n2 => a46 h1 (Or.inr n2)⟩⟩
  exact cg_X8_isWay hd ⟨fun e => a35 (Or.inl e), fun n => ⟨fun e => f68 _ _ _ (fun q => q.1.elim n (fun x => x.1 e)), fun n1 => ⟨fun e => f68 _ _ _ (fun q => q.1.elim n (fun x => x.2 e)), fun n2 => a35 (Or.inr ⟨n1, n2⟩)⟩⟩⟩
/-- which knot a way looses ahead of an hour -/
def kLA (w i : Nat) : Nat := if w % 12 = i then 0 else if w / 12 % 12 = i then 1 else if w / 144 % 12 = i then 2 else 3
theorem kLA_le (w i : Nat) : kLA w i ≤ 3 := by
  unfold kLA
  split
  · omega
  · split
    · omega
    · split <;> omega
theorem mLA_n {w i : Nat} (hw : w < 1728) (hi : i < 100) : mLA (nI w) (nI i) = nI (kLA w i) := by
  have e12 : nI w / 12 = nI (w / 12) := pk_div (by omega) (by decide) (by decide)
  have e144 : nI (w / 12) / 12 = nI (w / 12 / 12) := pk_div (by omega) (by decide) (by decide)
  have r1 : iR (nI w) 12 = nI (w % 12) := pk_rem (d := 12) (by omega) (by decide) (by decide)
  have r2 : iR (nI (w / 12)) 12 = nI (w / 12 % 12) := pk_rem (d := 12) (by omega) (by decide) (by decide)
  have r3 : iR (nI (w / 12 / 12)) 12 = nI (w / 12 / 12 % 12) := pk_rem (d := 12) (by omega) (by decide) (by decide)
  unfold mLA kLA
  rw [e12, e144, r1, r2, r3, show w / 12 / 12 = w / 144 by omega]
  have q : ∀ a, a < 12 → (nI a = nI i ↔ a = i) := fun a ha => nI_eq (by omega) (by omega)
  by_cases c1 : w % 12 = i
  · rw [if_pos c1, if_pos ((q _ (by omega)).mpr c1)]
    rfl
  rw [if_neg c1, if_neg (fun z => c1 ((q _ (by omega)).mp z))]
  by_cases c2 : w / 12 % 12 = i
  · rw [if_pos c2, if_pos ((q _ (by omega)).mpr c2)]
    rfl
  rw [if_neg c2, if_neg (fun z => c2 ((q _ (by omega)).mp z))]
  by_cases c3 : w / 144 % 12 = i
  · rw [if_pos c3, if_pos ((q _ (by omega)).mpr c3)]
    rfl
  rw [if_neg c3, if_neg (fun z => c3 ((q _ (by omega)).mp z))]
  rfl
/-- a way gone: its end, if it has one -/
def kRun (v : kM) (p : Nat) (w : Nat → Nat) : Nat → Nat → Nat × Nat → (Nat → Int32) → Nat → Nat → Option (Nat × Nat × Nat)
  | 0, t, x, _, l, r => if x.2 = 2 then some (t, l, r) else none
  | m + 1, t, x, s, l, r => if x.2 = 2 then some (t, l, r) else if x.2 = 0 then (if w t < 3 then (if kMa v p s t x (w t) then kRun v p w m (t + 1) (kNp v p (upd s (w t) (nI t)) t x) (upd s (w t) (nI t)) (l + 1) (4 * r + w t) else none) else kRun v p w m (t + 1) (kNp v p s t x) s l (4 * r + 3)) else none
theorem kRun_h {v : kM} {p m t l r : Nat} {w : Nat → Nat} {x : Nat × Nat} {s : Nat → Int32} (hx : x.2 = 2) : kRun v p w m t x s l r = some (t, l, r) := by
  cases m with
  | zero => exact if_pos hx
  | succ m => exact if_pos hx
theorem kRun_w {v : kM} {p m t l r : Nat} {w : Nat → Nat} {x : Nat × Nat} {s : Nat → Int32} (h2 : ¬ x.2 = 2) (h0 : ¬ x.2 = 0 ∨ m = 0) : kRun v p w m t x s l r = none := by
  cases m with
  | zero => exact if_neg h2
  | succ m =>
    have h0' : ¬ x.2 = 0 := h0.resolve_right (by omega)
    show (if x.2 = 2 then some (t, l, r) else if x.2 = 0 then _ else none) = none
    rw [if_neg h2, if_neg h0']
theorem kRun_k {v : kM} {p m t l r : Nat} {w : Nat → Nat} {x : Nat × Nat} {s : Nat → Int32} (h0 : x.2 = 0) (hw : w t < 3) (hm : kMa v p s t x (w t)) : kRun v p w (m + 1) t x s l r = kRun v p w m (t + 1) (kNp v p (upd s (w t) (nI t)) t x) (upd s (w t) (nI t)) (l + 1) (4 * r + w t) := by
  show (if x.2 = 2 then some (t, l, r) else if x.2 = 0 then (if w t < 3 then (if kMa v p s t x (w t) then _ else none) else _) else none) = _
  rw [if_neg (by omega), if_pos h0, if_pos hw, if_pos hm]
theorem kRun_x {v : kM} {p m t l r : Nat} {w : Nat → Nat} {x : Nat × Nat} {s : Nat → Int32} (h0 : x.2 = 0) (hw : w t < 3) (hm : ¬ kMa v p s t x (w t)) : kRun v p w (m + 1) t x s l r = none := by
  show (if x.2 = 2 then some (t, l, r) else if x.2 = 0 then (if w t < 3 then (if kMa v p s t x (w t) then _ else none) else _) else none) = _
  rw [if_neg (by omega), if_pos h0, if_pos hw, if_neg hm]
theorem kRun_3 {v : kM} {p m t l r : Nat} {w : Nat → Nat} {x : Nat × Nat} {s : Nat → Int32} (h0 : x.2 = 0) (hw : ¬ w t < 3) : kRun v p w (m + 1) t x s l r = kRun v p w m (t + 1) (kNp v p s t x) s l (4 * r + 3) := by
  show (if x.2 = 2 then some (t, l, r) else if x.2 = 0 then (if w t < 3 then (if kMa v p s t x (w t) then _ else none) else _) else none) = _
  rw [if_neg (by omega), if_pos h0, if_neg hw]
/-- an end of a way gone is an end -/
theorem kRun_out {v : kM} {p : Nat} {w : Nat → Nat} : ∀ (m t : Nat) (x : Nat × Nat) (s : Nat → Int32) (l r T L R : Nat), kRun v p w m t x s l r = some (T, L, R) → kOut v p m t x s l r T L R
  | 0, t, x, s, l, r, T, L, R, q => by
    by_cases h2 : x.2 = 2
    · rw [kRun_h h2] at q
      cases q
      exact ⟨h2, rfl, rfl, rfl⟩
    · rw [kRun_w h2 (Or.inr rfl)] at q
      cases q
  | m + 1, t, x, s, l, r, T, L, R, q => by
    by_cases h2 : x.2 = 2
    · rw [kRun_h h2] at q
      cases q
      exact Or.inl ⟨h2, rfl, rfl, rfl⟩
    · by_cases h0 : x.2 = 0
      · refine Or.inr ⟨h0, ?_⟩
        by_cases hw : w t < 3
        · by_cases hm : kMa v p s t x (w t)
          · rw [kRun_k h0 hw hm] at q
            exact Or.inl ⟨w t, hw, hm, kRun_out m _ _ _ _ _ _ _ _ q⟩
          · rw [kRun_x h0 hw hm] at q
            cases q
        · rw [kRun_3 h0 hw] at q
          exact Or.inr (kRun_out m _ _ _ _ _ _ _ _ q)
      · rw [kRun_w h2 (Or.inl h0)] at q
        cases q
def kPick (F : Nat → Nat) (i : Nat) : Nat := if F 0 = i then 0 else if F 1 = i then 1 else if F 2 = i then 2 else 3
def kIs (s : Nat → Int32) : Prop := ∀ i, i < 3 → ∀ j, j < 3 → s i = s j → s i = -1 ∨ i = j
/-- hours of loosing that fit what was loosed so far -/
def kFit (F : Nat → Nat) (s : Nat → Int32) (t : Nat) : Prop := (∀ j, j < 3 → ∀ u, u < t → s j = nI u → F j = u) ∧ (∀ j, j < 3 → s j = -1 → F j = 11 ∨ (t ≤ F j ∧ F j ≤ 9)) ∧ (∀ i, i < 3 → ∀ j, j < 3 → F i = F j → F i = 11 ∨ i = j) ∧ ∀ j, j < 3 → F j ≤ 9 ∨ F j = 11
theorem kIs.u {s : Nat → Int32} {t k : Nat} (ht : t < 100) (w : kSwt s t) (i : kIs s) : kIs (upd s k (nI t)) := by
  intro a ha b hb e
  have ne : ∀ c, c < 3 → ¬ s c = nI t := fun c hc z => by
    rcases w c hc with q | ⟨u, hu, q⟩
    · rw [q] at z
      exact nI_m1 (by omega) z.symm
    · rw [q] at z
      have := (nI_eq (by omega) (by omega)).mp z
      omega
  by_cases ea : a = k
  · by_cases eb : b = k
    · exact Or.inr (by omega)
    · rw [ea, pk_us, pk_un eb] at e
      exact absurd e.symm (ne b hb)
  · by_cases eb : b = k
    · rw [eb, pk_us, pk_un ea] at e
      exact absurd e (ne a ha)
    · rw [pk_un ea, pk_un eb] at e
      rw [pk_un ea]
      exact i a ha b hb e
theorem kOut_run {v : kM} {p : Nat} : ∀ (m t : Nat) (x : Nat × Nat) (s : Nat → Int32) (l r T L R : Nat), t + m ≤ 10 → kSwt s t → kIs s → kOut v p m t x s l r T L R → ∃ F, kFit F s t ∧ kRun v p (kPick F) m t x s l r = some (T, L, R) := by
  have home : ∀ (m t : Nat) (x : Nat × Nat) (s : Nat → Int32) (l r T L R : Nat), t + m ≤ 10 → kSwt s t → kIs s → x.2 = 2 → T = t ∧ L = l ∧ R = r → ∃ F, kFit F s t ∧ kRun v p (kPick F) m t x s l r = some (T, L, R) := by
    intro m t x s l r T L R htm w i hx q
    obtain ⟨rfl, rfl, rfl⟩ := q
    have F1 : ∀ j, j < 3 → ∀ u, u < 100 → s j = nI u → (if s j = -1 then 11 else (s j).toNatClampNeg) = u := fun j hj u hu e => by
      rw [e, if_neg (nI_m1 (by omega)), nI_clamp (by omega)]
    refine ⟨fun j => if s j = -1 then 11 else (s j).toNatClampNeg, ⟨fun j hj u hu e => F1 j hj u (by omega) e, fun j hj e => Or.inl (if_pos e), fun a ha b hb e => ?_, fun j hj => ?_⟩, kRun_h hx⟩
    · have e : (if s a = -1 then 11 else (s a).toNatClampNeg) = (if s b = -1 then 11 else (s b).toNatClampNeg) := e
      rcases w a ha with qa | ⟨u, hu, qa⟩
      · exact Or.inl (if_pos qa)
      · rcases w b hb with qb | ⟨u', hu', qb⟩
        · rw [F1 a ha u (by omega) qa, if_pos qb] at e
          omega
        · rw [F1 a ha u (by omega) qa, F1 b hb u' (by omega) qb] at e
          rcases i a ha b hb (by rw [qa, qb, e]) with z | z
          · exact Or.inl (if_pos z)
          · exact Or.inr z
    · show (if s j = -1 then 11 else (s j).toNatClampNeg) ≤ 9 ∨ (if s j = -1 then 11 else (s j).toNatClampNeg) = 11
      rcases w j hj with q | ⟨u, hu, q⟩
      · exact Or.inr (if_pos q)
      · rw [F1 j hj u (by omega) q]
        exact Or.inl (by omega)
  intro m
  induction m with
  | zero =>
    intro t x s l r T L R htm w i q
    exact home 0 t x s l r T L R htm w i q.1 q.2
  | succ m ih =>
    intro t x s l r T L R htm w i q
    rcases q with q | ⟨x0, ⟨k, hk, hm, q⟩ | q⟩
    · exact home (m + 1) t x s l r T L R htm w i q.1 q.2
    · obtain ⟨F, ⟨f1, f2, f3, f4⟩, fr⟩ := ih (t + 1) _ _ _ _ T L R (by omega) w.u (i.u (by omega) w) q
      have fk : F k = t := f1 k hk t (by omega) pk_us
      have ft : kPick F t = k := by
        unfold kPick
        have ne : ∀ j, j < 3 → j ≠ k → ¬ F j = t := fun j hj hjk e => by
          rcases f3 j hj k hk (by rw [e, fk]) with z | z
          · omega
          · exact hjk z
        rcases (show k = 0 ∨ k = 1 ∨ k = 2 by omega) with rfl | rfl | rfl
        · rw [if_pos fk]
        · rw [if_neg (ne 0 (by omega) (by omega)), if_pos fk]
        · rw [if_neg (ne 0 (by omega) (by omega)), if_neg (ne 1 (by omega) (by omega)), if_pos fk]
      refine ⟨F, ⟨fun j hj u hu e => ?_, fun j hj e => ?_, f3, f4⟩, ?_⟩
      · have hjk : j ≠ k := fun z => by
          subst z
          rw [hm.1] at e
          exact nI_m1 (by omega) e.symm
        exact f1 j hj u (by omega) (by rw [pk_un hjk]; exact e)
      · by_cases hjk : j = k
        · subst hjk
          exact Or.inr ⟨by omega, by omega⟩
        · rcases f2 j hj (by rw [pk_un hjk]; exact e) with z | z
          · exact Or.inl z
          · exact Or.inr ⟨by omega, z.2⟩
      · rw [kRun_k (w := kPick F) x0 (by rw [ft]; exact hk) (by rw [ft]; exact hm), ft]
        exact fr
    · obtain ⟨F, ⟨f1, f2, f3, f4⟩, fr⟩ := ih (t + 1) _ _ _ _ T L R (by omega) w.s i q
      have ne : ∀ j, j < 3 → ¬ F j = t := fun j hj e => by
        rcases w j hj with z | ⟨u, hu, z⟩
        · rcases f2 j hj z with y | y <;> omega
        · have := f1 j hj u (by omega) z
          omega
      have ft : kPick F t = 3 := by
        unfold kPick
        rw [if_neg (ne 0 (by omega)), if_neg (ne 1 (by omega)), if_neg (ne 2 (by omega))]
      refine ⟨F, ⟨fun j hj u hu e => f1 j hj u (by omega) e, fun j hj e => ?_, f3, f4⟩, ?_⟩
      · rcases f2 j hj e with z | z
        · exact Or.inl z
        · exact Or.inr ⟨by omega, z.2⟩
      · rw [kRun_3 (w := kPick F) x0 (by rw [ft]; omega)]
        exact fr
/-- each end is that of a way -/
theorem kOut_way {v : kM} {p n : Nat} {x : Nat × Nat} {T L R : Nat} (hn : n ≤ 10) (q : kOut v p n 0 x (fun _ => -1) 0 0 T L R) : ∃ w, w < 1728 ∧ mIsW (nI w) ∧ kRun v p (kLA w) n 0 x (fun _ => -1) 0 0 = some (T, L, R) := by
  obtain ⟨F, ⟨-, -, f3, f4⟩, fr⟩ := kOut_run n 0 x (fun _ => -1) 0 0 T L R (by omega) (fun _ _ => Or.inl rfl) (fun _ _ _ _ _ => Or.inl rfl) q
  have a0 := f4 0 (by omega)
  have a1 := f4 1 (by omega)
  have a2 := f4 2 (by omega)
  have b01 := f3 0 (by omega) 1 (by omega)
  have b02 := f3 0 (by omega) 2 (by omega)
  have b12 := f3 1 (by omega) 2 (by omega)
  generalize e0 : F 0 = A at a0 b01 b02
  generalize e1 : F 1 = B at a1 b01 b12
  generalize e2 : F 2 = C at a2 b02 b12
  have m1 : (A + 12 * B + 144 * C) % 12 = A := by omega
  have m2 : (A + 12 * B + 144 * C) / 12 % 12 = B := by omega
  have m3 : (A + 12 * B + 144 * C) / 144 = C := by omega
  have m4 : (A + 12 * B + 144 * C) / 144 % 12 = C := by omega
  refine ⟨A + 12 * B + 144 * C, by omega, ?_, ?_⟩
  · have e12 : nI (A + 12 * B + 144 * C) / 12 = nI ((A + 12 * B + 144 * C) / 12) := pk_div (by omega) (by decide) (by decide)
    have e144 : nI (A + 12 * B + 144 * C) / 144 = nI ((A + 12 * B + 144 * C) / 144) := pk_div (by omega) (by decide) (by decide)
    have r1 : iR (nI (A + 12 * B + 144 * C)) 12 = nI ((A + 12 * B + 144 * C) % 12) := pk_rem (d := 12) (by omega) (by decide) (by decide)
    have r2 : iR (nI ((A + 12 * B + 144 * C) / 12)) 12 = nI ((A + 12 * B + 144 * C) / 12 % 12) := pk_rem (d := 12) (by omega) (by decide) (by decide)
    unfold mIsW
    rw [e12, e144, r1, r2, m1, m2, m3]
    have q : ∀ a b, a < 12 → b < 12 → (nI a = nI b ↔ a = b) := fun a b ha hb => nI_eq (by omega) (by omega)
    have q11 : ∀ a, a < 12 → (nI a = 11 ↔ a = 11) := fun a ha => q a 11 ha (by omega)
    have q10 : ∀ a, a < 12 → (nI a = 10 ↔ a = 10) := fun a ha => q a 10 ha (by omega)
    rw [q11 A (by omega), q11 B (by omega), q10 A (by omega), q10 B (by omega), q10 C (by omega), q A B (by omega) (by omega), q A C (by omega) (by omega), q B C (by omega) (by omega)]
    refine ⟨?_, ?_, by omega, by omega, by omega⟩
    · by_cases z : A = 11
      · exact Or.inl z
      · refine Or.inr ⟨fun y => ?_, fun y => ?_⟩
        · rcases b01 (by rw [y]) with u | u <;> omega
        · rcases b02 (by rw [y]) with u | u <;> omega
    · by_cases z : B = 11
      · exact Or.inl z
      · refine Or.inr (fun y => ?_)
        rcases b12 (by rw [y]) with u | u <;> omega
  · have ef : kLA (A + 12 * B + 144 * C) = kPick F := by
      funext i
      unfold kLA kPick
      rw [m1, m2, m4, e0, e1, e2]
    rw [ef]
    exact fr
/-- sums of which some terms grew -/
theorem kSum_upd {f : Nat → Int32} {s c : Int32} {q : Nat} : ∀ n, q < n → kSum (upd f q (f q + c)) s n = kSum f s n + c
  | 0, h => absurd h (Nat.not_lt_zero q)
  | n + 1, h => by
    show kSum (upd f q (f q + c)) s n + upd f q (f q + c) n = kSum f s n + f n + c
    by_cases e : n = q
    · subst e
      rw [pk_us, kSum_congr n (fun i hi => pk_un (by omega)), Int32.add_assoc]
    · rw [pk_un e, kSum_upd n (by omega), Int32.add_assoc, Int32.add_comm c, ← Int32.add_assoc]
theorem kSum_blk {f f' c : Nat → Int32} {s : Int32} {q N : Nat} (hq : q + 3 ≤ N) (e : ∀ j, j < N → ¬ (q ≤ j ∧ j < q + 3) → f' j = f j) (ec : ∀ k, k < 3 → f' (q + k) = f (q + k) + c k) : kSum f' s N = kSum c (kSum f s N) 3 := by
  have g1 := kSum_upd (f := f) (s := s) (c := c 0) (q := q) N (by omega)
  have g2 := kSum_upd (f := upd f q (f q + c 0)) (s := s) (c := c 1) (q := q + 1) N (by omega)
  have g3 := kSum_upd (f := upd (upd f q (f q + c 0)) (q + 1) (upd f q (f q + c 0) (q + 1) + c 1)) (s := s) (c := c 2) (q := q + 2) N (by omega)
  show _ = kSum f s N + c 0 + c 1 + c 2
  rw [← g1, ← g2, ← g3]
  refine kSum_congr N (fun j hj => ?_)
  by_cases e2 : j = q + 2
  · subst e2
    rw [pk_us, pk_un (by omega), pk_un (by omega)]
    exact ec 2 (by omega)
  rw [pk_un e2]
  by_cases e1 : j = q + 1
  · subst e1
    rw [pk_us, pk_un (by omega)]
    exact ec 1 (by omega)
  rw [pk_un e1]
  by_cases e0 : j = q
  · subst e0
    rw [pk_us]
    exact ec 0 (by omega)
  rw [pk_un e0]
  exact e j hj (by omega)
/-- the model's view on a way -/
def kTk (v u : kM) (p t : Nat) (s : Nat → Int32) (x : Nat × Nat) : Prop := (∀ a, a ≤ 15 → a ≠ 0 → a ≠ 3 → a ≠ 8 → a ≠ 13 → u a = v a) ∧ (∀ j, j ≠ 13 → u 0 j = v 0 j) ∧ u 0 13 = v 0 13 + nI t ∧ (∀ k, ¬ (3 * p ≤ k ∧ k < 3 * p + 3) → u 8 k = v 8 k) ∧ (∀ k, k < 3 → u 8 (3 * p + k) = if s k = -1 then v 8 (3 * p + k) else v 0 13 + s k) ∧ u 3 p = kPl x
/-- what was loosed had been tied -/
def kTs (v : kM) (p : Nat) (s : Nat → Int32) : Prop := ∀ k, k < 3 → ¬ s k = -1 → v 8 (3 * p + k) = -1
theorem sub2 (a b c : Int32) : a + b - (a + c) = b - c := by
  have e : a + b = (b - c) + (a + c) := by rw [Int32.add_comm a c, ← Int32.add_assoc, Int32.sub_add_cancel, Int32.add_comm]
  rw [e, Int32.add_sub_cancel]
theorem kTk.wn {v u : kM} {p t : Nat} {s : Nat → Int32} {x : Nat × Nat} {H : Nat} (k : kTk v u p t s x) (hH : v 0 13 = nI H) (hH2 : H ≤ 100000) (sv : kSv s t) (ht : t ≤ 100) (ts : kTs v p s) (hp : p < kNs v) (what : Int32) : kWn u what (u 0 13) = kE2 v p s t what := by
  obtain ⟨k1, k2, k3, k4, k5, k6⟩ := k
  have en : kNs u = kNs v := by
    unfold kNs
    rw [k2 12 (by decide)]
  have fo : ∀ j a, kFo u j a = kFo v j a := fun j a => by
    unfold kFo
    rw [k1 11 (by decide) (by decide) (by decide) (by decide) (by decide), k1 12 (by decide) (by decide) (by decide) (by decide) (by decide), k1 5 (by decide) (by decide) (by decide) (by decide) (by decide), k1 6 (by decide) (by decide) (by decide) (by decide) (by decide), k1 7 (by decide) (by decide) (by decide) (by decide) (by decide)]
  have e7 : u 7 = v 7 := k1 7 (by decide) (by decide) (by decide) (by decide) (by decide)
  unfold kWn kE2
  rw [en, k1 2 (by decide) (by decide) (by decide) (by decide) (by decide), k3]
  refine kSum_blk (q := 3 * p) (by omega) (fun j hj ho => ?_) (fun i hi => ?_)
  · unfold kWt
    rw [k4 j ho, e7, fo]
  · unfold kWt kC
    rw [k5 i hi, e7, fo]
    by_cases c : s i = -1
    · rw [if_pos c, if_pos c, Int32.add_zero]
    · obtain ⟨τ, hτ, eτ⟩ := (sv i hi).resolve_left c
      rw [if_neg c, if_neg c, ts i hi c, if_pos rfl, Int32.zero_add, sub2, if_neg]
      rw [hH, eτ, nI_add]
      exact nI_m1 (by omega)
theorem kTk.lo {v u : kM} {p t k : Nat} {s : Nat → Int32} {x : Nat × Nat} (q : kTk v u p t s x) (hk : k < 3) (ht : t < 100) : kTk v (kLo u (3 * p + k)) p t (upd s k (nI t)) x := by
  obtain ⟨k1, k2, k3, k4, k5, k6⟩ := q
  refine ⟨fun a a1 a2 a3 a4 a5 => by rw [kLo_c a4]; exact k1 a a1 a2 a3 a4 a5, fun j hj => by rw [kLo_c (by decide)]; exact k2 j hj, by rw [kLo_c (by decide)]; exact k3, fun j hj => by rw [kLo_8, pk_un (by omega)]; exact k4 j hj, fun j hj => ?_, by rw [kLo_c (by decide)]; exact k6⟩
  rw [kLo_8]
  by_cases e : j = k
  · subst e
    rw [pk_us, pk_us, if_neg (nI_m1 (by omega)), k3]
  · rw [pk_un (by omega), pk_un e]
    exact k5 j hj
theorem kTk.hr {v u : kM} {p t : Nat} {s : Nat → Int32} {x : Nat × Nat} {H : Nat} (q : kTk v u p t s x) (hH : v 0 13 = nI H) (hH2 : H ≤ 100000) (sv : kSv s t) (ht : t ≤ 100) (ts : kTs v p s) (hp : p < kNs v) (x1 : x.1 < 64) (x2 : x.2 < 3) : kTk v (kHr u) p (t + 1) s (kNp v p s t x) := by
  have w := fun what => q.wn hH hH2 sv ht ts hp what
  obtain ⟨k1, k2, k3, k4, k5, k6⟩ := q
  refine ⟨fun a a1 a2 a3 a4 a5 => by rw [kHr_c a2 a3]; exact k1 a a1 a2 a3 a4 a5, fun j hj => by rw [kHr_s hj]; exact k2 j hj, by rw [kHr_h, k3, Int32.add_assoc, nI_1], fun j hj => by rw [kHr_c (by decide) (by decide)]; exact k4 j hj, fun j hj => by rw [kHr_c (by decide) (by decide)]; exact k5 j hj, ?_⟩
  have en : kNs u = kNs v := by
    unfold kNs
    rw [k2 12 (by decide)]
  show (if p < kNs u then kGo1 u (kWn u 0 (u 0 13)) (kWn u 1 (u 0 13)) p else u 3 p) = _
  rw [if_pos (by rw [en]; exact hp), w, w]
  unfold kGo1 kPort kNp kPort
  rw [k6, kXy_pl x1 x2, k1 1 (by decide) (by decide) (by decide) (by decide) (by decide), k1 4 (by decide) (by decide) (by decide) (by decide) (by decide)]
end Tries

