/-! one ship's way: class and model -/
section Sail
variable {G : kG} {d : Nat} {Q : Int32 → kM → Prop} {h : kM}
/-- the next cell: to the east (axis 0), the south (1), or back; none at the border -/
def kNx (ax : Nat) (neg : Bool) (c : Nat) : Option Nat :=
  if ax = 0 then (if neg then (if 0 < c % 8 then some (c - 1) else none) else (if c % 8 < 7 then some (c + 1) else none))
  else (if neg then (if 8 ≤ c then some (c - 8) else none) else (if c < 56 then some (c + 8) else none))
def kSta (la : Nat → Int32) (q c : Nat) : Nat := if c = q then 2 else if la c = 1 then 1 else 0
/-- so many cells on, at most: (cell, what it is there) -/
def kSl (la : Nat → Int32) (q ax : Nat) (neg : Bool) : Nat → Nat × Nat → Nat × Nat
  | 0, x => x
  | m + 1, x => if x.2 = 0 then (match kNx ax neg x.1 with
    | none => x
    | some c => kSl la q ax neg m (c, kSta la q c)) else x
theorem kSl_done {la : Nat → Int32} {q ax : Nat} {neg : Bool} {x : Nat × Nat} (hx : ¬ x.2 = 0) : ∀ m, kSl la q ax neg m x = x
  | 0 => rfl
  | m + 1 => if_neg hx
theorem kSl_stop {la : Nat → Int32} {q ax : Nat} {neg : Bool} {x : Nat × Nat} (hx : kNx ax neg x.1 = none) : ∀ m, kSl la q ax neg m x = x
  | 0 => rfl
  | m + 1 => by
    unfold kSl
    rw [hx]
    split <;> rfl
theorem kSl_go {la : Nat → Int32} {q ax : Nat} {neg : Bool} {x : Nat × Nat} {c : Nat} (h0 : x.2 = 0) (hx : kNx ax neg x.1 = some c) (m : Nat) : kSl la q ax neg (m + 1) x = kSl la q ax neg m (c, kSta la q c) := by
  show (if x.2 = 0 then _ else _) = _
  rw [if_pos h0, hx]
theorem kNx_lt {ax : Nat} {neg : Bool} {c c' : Nat} (hc : c < 64) (h : kNx ax neg c = some c') : c' < 64 := by
  unfold kNx at h
  split at h <;> split at h <;> split at h <;> first | (cases h; omega) | cases h
theorem kSta_lt (la : Nat → Int32) (q c : Nat) : kSta la q c < 3 := by
  unfold kSta
  split
  · decide
  · split <;> decide
theorem kSl_lt {la : Nat → Int32} {q ax : Nat} {neg : Bool} : ∀ (m : Nat) (x : Nat × Nat), x.1 < 64 → x.2 < 3 → (kSl la q ax neg m x).1 < 64 ∧ (kSl la q ax neg m x).2 < 3
  | 0, x, h1, h2 => ⟨h1, h2⟩
  | m + 1, x, h1, h2 => by
    by_cases h0 : x.2 = 0
    · cases e : kNx ax neg x.1 with
      | none => rw [kSl_stop e]; exact ⟨h1, h2⟩
      | some c => rw [kSl_go h0 e]; exact kSl_lt m _ (kNx_lt h1 e) (kSta_lt _ _ _)
    · rw [kSl_done h0]; exact ⟨h1, h2⟩
theorem kEnt_n {la : Nat → Int32} {q c : Nat} (hq : q < 64) (hc : c < 64) : kEnt la (nI q) (nI c) = nI (64 * kSta la q c + c) := by
  unfold kEnt kSta
  rw [nI_clamp (by omega)]
  by_cases e : c = q
  · rw [if_pos (by rw [e]), if_pos e]
    exact nI_add 128 c
  · rw [if_neg (fun z => e ((nI_eq (by omega) (by omega)).mp z)), if_neg e]
    by_cases e2 : la c = 1
    · rw [if_pos e2, if_pos e2]
      exact nI_add 64 c
    · rw [if_neg e2, if_neg e2]
      exact nI_add 0 c
abbrev kIn8 (x : Int32) : Prop := 0 ≤ x ∧ x < 8
theorem kdir_r : ∀ c, c < 64 → kIn8 (nI c / 8 + 0) := by decide +kernel
theorem kdir_c : ∀ c, c < 64 → kIn8 ((nI c - nI c / 8 * 8) + 0) := by decide +kernel
theorem kdir_0p : ∀ c, c < 64 → (kNx 0 false c = none → ¬ kIn8 ((nI c - nI c / 8 * 8) + 1)) ∧ ((kNx 0 false c).isSome = true → kIn8 ((nI c - nI c / 8 * 8) + 1) ∧ 8 * (nI c / 8 + 0) + ((nI c - nI c / 8 * 8) + 1) = nI ((kNx 0 false c).getD 0)) := by decide +kernel
theorem kdir_0n : ∀ c, c < 64 → (kNx 0 true c = none → ¬ kIn8 ((nI c - nI c / 8 * 8) + (-1))) ∧ ((kNx 0 true c).isSome = true → kIn8 ((nI c - nI c / 8 * 8) + (-1)) ∧ 8 * (nI c / 8 + 0) + ((nI c - nI c / 8 * 8) + (-1)) = nI ((kNx 0 true c).getD 0)) := by decide +kernel
theorem kdir_1p : ∀ c, c < 64 → (kNx 1 false c = none → ¬ kIn8 (nI c / 8 + 1)) ∧ ((kNx 1 false c).isSome = true → kIn8 (nI c / 8 + 1) ∧ 8 * (nI c / 8 + 1) + ((nI c - nI c / 8 * 8) + 0) = nI ((kNx 1 false c).getD 0)) := by decide +kernel
theorem kdir_1n : ∀ c, c < 64 → (kNx 1 true c = none → ¬ kIn8 (nI c / 8 + (-1))) ∧ ((kNx 1 true c).isSome = true → kIn8 (nI c / 8 + (-1)) ∧ 8 * (nI c / 8 + (-1)) + ((nI c - nI c / 8 * 8) + 0) = nI ((kNx 1 true c).getD 0)) := by decide +kernel
def at_X2_along_22 (G : kG) (d : Nat) (Q : Int32 → kM → Prop) (b : Nat) (v1 : Int32) (v2 : Int32) (v3 : Int32) (v4 : Int32) (v5 : Int32) (v6 : Int32) (v7 : Int32) (h : kM) : Prop := Wp G d m_X2_along (kEo G d m_X2_along Q) 22 [.ref b, .int v1, .int v2, .int v3, .int v4, .int v5, .int v6, .int v7, .null, .null] [] h
theorem sg_X2_along_0 {G : kG} {d : Nat} {Q : Int32 → kM → Prop} {b : Nat} {a1 : Int32} {a2 : Int32} {a3 : Int32} {a4 : Int32} {h : kM} (hd : 2 ≤ d) (k_b : kSea b) (H :
    ((0 ≤ a4 →
      at_X2_along_22 G d Q b a1 a2 a3 a4 (1 : Int32) a2 (a4 * (1 : Int32)) h
    ) ∧ (¬ (0 ≤ a4) →
      at_X2_along_22 G d Q b a1 a2 a3 a4 (-1 : Int32) a2 (a4 * (-1 : Int32)) h
    ))) : Wp G d m_X2_along (kEo G d m_X2_along Q) 0 [.ref b, .int a1, .int a2, .int a3, .int a4, .null, .null, .null, .null, .null] [] h := by
  refine wp_iload 2 dX2_along_0 rfl rfl ?_
  refine wp_if_ge 9 5 dX2_along_2 rfl rfl ⟨fun c1 => ?_, fun c1 => ?_⟩
  · replace H := H.1 c1
    refine wp_iconst (1 : Int32) 10 dX2_along_9 kiconst_1 rfl ?_
    refine wp_istore 12 dX2_along_10 rfl (Nat.le_of_ble_eq_true rfl) rfl ?_
    refine wp_iload_n 13 dX2_along_12 rfl rfl ?_
    refine wp_istore 15 dX2_along_13 rfl (Nat.le_of_ble_eq_true rfl) rfl ?_
    refine wp_iload 17 dX2_along_15 rfl rfl ?_
    refine wp_iload 19 dX2_along_17 rfl rfl ?_
    refine wp_imul 20 dX2_along_19 rfl ?_
    refine wp_istore 22 dX2_along_20 rfl (Nat.le_of_ble_eq_true rfl) rfl ?_
    exact H
  · replace H := H.2 c1
    refine wp_iconst (-1 : Int32) 6 dX2_along_5 kiconst_m1 rfl ?_
    refine wp_goto 10 dX2_along_6 rfl ?_
    refine wp_istore 12 dX2_along_10 rfl (Nat.le_of_ble_eq_true rfl) rfl ?_
    refine wp_iload_n 13 dX2_along_12 rfl rfl ?_
    refine wp_istore 15 dX2_along_13 rfl (Nat.le_of_ble_eq_true rfl) rfl ?_
    refine wp_iload 17 dX2_along_15 rfl rfl ?_
    refine wp_iload 19 dX2_along_17 rfl rfl ?_
    refine wp_imul 20 dX2_along_19 rfl ?_
    refine wp_istore 22 dX2_along_20 rfl (Nat.le_of_ble_eq_true rfl) rfl ?_
    exact H

theorem cg_X2_along {G : kG} {d : Nat} {Q : Int32 → kM → Prop} {b : Nat} {a1 : Int32} {a2 : Int32} {a3 : Int32} {a4 : Int32} {h : kM} (hd : 2 ≤ d) (k_b : kSea b) (H :
    ((0 ≤ a4 →
      at_X2_along_22 G d Q b a1 a2 a3 a4 (1 : Int32) a2 (a4 * (1 : Int32)) h
    ) ∧ (¬ (0 ≤ a4) →
      at_X2_along_22 G d Q b a1 a2 a3 a4 (-1 : Int32) a2 (a4 * (-1 : Int32)) h
    ))) : Cal G d m_X2_along [.ref b, .int a1, .int a2, .int a3, .int a4] h Q :=
  Cal.of [.ref b, .int a1, .int a2, .int a3, .int a4, .null, .null, .null, .null, .null] (by decide +kernel) (Nat.le_of_ble_eq_true rfl) rfl (sg_X2_along_0 hd k_b H)

theorem sg_X2_along_22 {G : kG} {d : Nat} {Q : Int32 → kM → Prop} {b : Nat} {v1 : Int32} {v2 : Int32} {v3 : Int32} {v4 : Int32} {v5 : Int32} {v6 : Int32} {v7 : Int32} {h : kM} (hd : 2 ≤ d) (k_b : kSea b) (H :
    ((v7 ≤ 0 →
      Q v6 h
    ) ∧ (¬ (v7 ≤ 0) →
      ((¬ (v6 / 64) = 0 →
        Q v6 h
      ) ∧ ((v6 / 64) = 0 →
        ((¬ v3 = (1 : Int32) →
          ((¬ v3 = 0 →
            (((kb (0 ≤ (((iR v6 64) / (8 : Int32)) + (0 : Int32)) ∧ (((iR v6 64) / (8 : Int32)) + (0 : Int32)) < (8 : Int32))) = 0 →
              Q v6 h
            ) ∧ (¬ ((kb (0 ≤ (((iR v6 64) / (8 : Int32)) + (0 : Int32)) ∧ (((iR v6 64) / (8 : Int32)) + (0 : Int32)) < (8 : Int32))) = 0) →
              ((¬ (kb (0 ≤ (((iR v6 64) - (iR v6 64) / (8 : Int32) * (8 : Int32)) + (0 : Int32)) ∧ (((iR v6 64) - (iR v6 64) / (8 : Int32) * (8 : Int32)) + (0 : Int32)) < (8 : Int32))) = 0 →
                (vp_in v1 5 ∧ vp_in (((8 : Int32) * (((iR v6 64) / (8 : Int32)) + (0 : Int32))) + (((iR v6 64) - (iR v6 64) / (8 : Int32) * (8 : Int32)) + (0 : Int32))) 64) ∧
                at_X2_along_22 G d Q b v1 v2 v3 v4 v5 (kEnt (h (b + 1)) (h (b + 4) (v1).toNatClampNeg) (((8 : Int32) * (((iR v6 64) / (8 : Int32)) + (0 : Int32))) + (((iR v6 64) - (iR v6 64) / (8 : Int32) * (8 : Int32)) + (0 : Int32)))) (v7 + (-1 : Int32)) h
              ) ∧ ((kb (0 ≤ (((iR v6 64) - (iR v6 64) / (8 : Int32) * (8 : Int32)) + (0 : Int32)) ∧ (((iR v6 64) - (iR v6 64) / (8 : Int32) * (8 : Int32)) + (0 : Int32)) < (8 : Int32))) = 0 →
                Q v6 h
              ))
            ))
          ) ∧ (v3 = 0 →
            (((kb (0 ≤ (((iR v6 64) / (8 : Int32)) + (0 : Int32)) ∧ (((iR v6 64) / (8 : Int32)) + (0 : Int32)) < (8 : Int32))) = 0 →
              Q v6 h
            ) ∧ (¬ ((kb (0 ≤ (((iR v6 64) / (8 : Int32)) + (0 : Int32)) ∧ (((iR v6 64) / (8 : Int32)) + (0 : Int32)) < (8 : Int32))) = 0) →
              ((¬ (kb (0 ≤ (((iR v6 64) - (iR v6 64) / (8 : Int32) * (8 : Int32)) + v5) ∧ (((iR v6 64) - (iR v6 64) / (8 : Int32) * (8 : Int32)) + v5) < (8 : Int32))) = 0 →
                (vp_in v1 5 ∧ vp_in (((8 : Int32) * (((iR v6 64) / (8 : Int32)) + (0 : Int32))) + (((iR v6 64) - (iR v6 64) / (8 : Int32) * (8 : Int32)) + v5)) 64) ∧
                at_X2_along_22 G d Q b v1 v2 v3 v4 v5 (kEnt (h (b + 1)) (h (b + 4) (v1).toNatClampNeg) (((8 : Int32) * (((iR v6 64) / (8 : Int32)) + (0 : Int32))) + (((iR v6 64) - (iR v6 64) / (8 : Int32) * (8 : Int32)) + v5))) (v7 + (-1 : Int32)) h
              ) ∧ ((kb (0 ≤ (((iR v6 64) - (iR v6 64) / (8 : Int32) * (8 : Int32)) + v5) ∧ (((iR v6 64) - (iR v6 64) / (8 : Int32) * (8 : Int32)) + v5) < (8 : Int32))) = 0 →
                Q v6 h
              ))
            ))
          ))
        ) ∧ (v3 = (1 : Int32) →
          ((¬ v3 = 0 →
            (((kb (0 ≤ (((iR v6 64) / (8 : Int32)) + v5) ∧ (((iR v6 64) / (8 : Int32)) + v5) < (8 : Int32))) = 0 →
              Q v6 h
            ) ∧ (¬ ((kb (0 ≤ (((iR v6 64) / (8 : Int32)) + v5) ∧ (((iR v6 64) / (8 : Int32)) + v5) < (8 : Int32))) = 0) →
              ((¬ (kb (0 ≤ (((iR v6 64) - (iR v6 64) / (8 : Int32) * (8 : Int32)) + (0 : Int32)) ∧ (((iR v6 64) - (iR v6 64) / (8 : Int32) * (8 : Int32)) + (0 : Int32)) < (8 : Int32))) = 0 →
                (vp_in v1 5 ∧ vp_in (((8 : Int32) * (((iR v6 64) / (8 : Int32)) + v5)) + (((iR v6 64) - (iR v6 64) / (8 : Int32) * (8 : Int32)) + (0 : Int32))) 64) ∧
                at_X2_along_22 G d Q b v1 v2 v3 v4 v5 (kEnt (h (b + 1)) (h (b + 4) (v1).toNatClampNeg) (((8 : Int32) * (((iR v6 64) / (8 : Int32)) + v5)) + (((iR v6 64) - (iR v6 64) / (8 : Int32) * (8 : Int32)) + (0 : Int32)))) (v7 + (-1 : Int32)) h
              ) ∧ ((kb (0 ≤ (((iR v6 64) - (iR v6 64) / (8 : Int32) * (8 : Int32)) + (0 : Int32)) ∧ (((iR v6 64) - (iR v6 64) / (8 : Int32) * (8 : Int32)) + (0 : Int32)) < (8 : Int32))) = 0 →
                Q v6 h
              ))
            ))
          ) ∧ (v3 = 0 →
            (((kb (0 ≤ (((iR v6 64) / (8 : Int32)) + v5) ∧ (((iR v6 64) / (8 : Int32)) + v5) < (8 : Int32))) = 0 →
              Q v6 h
            ) ∧ (¬ ((kb (0 ≤ (((iR v6 64) / (8 : Int32)) + v5) ∧ (((iR v6 64) / (8 : Int32)) + v5) < (8 : Int32))) = 0) →
              ((¬ (kb (0 ≤ (((iR v6 64) - (iR v6 64) / (8 : Int32) * (8 : Int32)) + v5) ∧ (((iR v6 64) - (iR v6 64) / (8 : Int32) * (8 : Int32)) + v5) < (8 : Int32))) = 0 →
                (vp_in v1 5 ∧ vp_in (((8 : Int32) * (((iR v6 64) / (8 : Int32)) + v5)) + (((iR v6 64) - (iR v6 64) / (8 : Int32) * (8 : Int32)) + v5)) 64) ∧
                at_X2_along_22 G d Q b v1 v2 v3 v4 v5 (kEnt (h (b + 1)) (h (b + 4) (v1).toNatClampNeg) (((8 : Int32) * (((iR v6 64) / (8 : Int32)) + v5)) + (((iR v6 64) - (iR v6 64) / (8 : Int32) * (8 : Int32)) + v5))) (v7 + (-1 : Int32)) h
              ) ∧ ((kb (0 ≤ (((iR v6 64) - (iR v6 64) / (8 : Int32) * (8 : Int32)) + v5) ∧ (((iR v6 64) - (iR v6 64) / (8 : Int32) * (8 : Int32)) + v5) < (8 : Int32))) = 0 →
                Q v6 h
              ))
            ))
          ))
        ))
      ))
    ))) : at_X2_along_22 G d Q b v1 v2 v3 v4 v5 v6 v7 h := by
  show Wp G d m_X2_along (kEo G d m_X2_along Q) 22 [.ref b, .int v1, .int v2, .int v3, .int v4, .int v5, .int v6, .int v7, .null, .null] [] h
  refine wp_iload 24 dX2_along_22 rfl rfl ?_
  refine wp_if_le 122 27 dX2_along_24 rfl rfl ⟨fun c1 => ?_, fun c1 => ?_⟩
  · replace H := H.1 c1
    refine wp_iload 124 dX2_along_122 rfl rfl ?_
    exact wp_reti dX2_along_124 rfl H
  · replace H := H.2 c1
    refine wp_iload 29 dX2_along_27 rfl rfl ?_
    refine wp_cN (d - 1) 1 [.int v6] [] 32 dX2_along_29 rfl (lk_X2_90 rfl) (by omega) rfl rfl (Nat.le_of_ble_eq_true rfl) (sp_X7_stateOf (by omega)  ?_)
    refine wp_if_ne 122 35 dX2_along_32 rfl rfl ⟨fun c2 => ?_, fun c2 => ?_⟩
    · replace H := H.1 c2
      refine wp_iload 124 dX2_along_122 rfl rfl ?_
      exact wp_reti dX2_along_124 rfl H
    · replace H := H.2 c2
      refine wp_iload 37 dX2_along_35 rfl rfl ?_
      refine wp_cN (d - 1) 1 [.int v6] [] 40 dX2_along_37 rfl (lk_X2_86 rfl) (by omega) rfl rfl (Nat.le_of_ble_eq_true rfl) (sp_X7_cellOf (by omega)  ?_)
      refine wp_bipush (8 : Int32) 42 dX2_along_40 kbipush_8 rfl ?_
      refine wp_idiv 43 dX2_along_42 (by decide) rfl ?_
      refine wp_iload_n 44 dX2_along_43 rfl rfl ?_
      refine wp_iconst (1 : Int32) 45 dX2_along_44 kiconst_1 rfl ?_
      refine wp_icmp_ne 53 48 dX2_along_45 rfl rfl ⟨fun c3 => ?_, fun c3 => ?_⟩
      · replace H := H.1 c3
        refine wp_iconst (0 : Int32) 54 dX2_along_53 kiconst_0 rfl ?_
        refine wp_iadd 55 dX2_along_54 rfl ?_
        refine wp_istore 57 dX2_along_55 rfl (Nat.le_of_ble_eq_true rfl) rfl ?_
        refine wp_iload 59 dX2_along_57 rfl rfl ?_
        refine wp_cN (d - 1) 1 [.int v6] [] 62 dX2_along_59 rfl (lk_X2_86 rfl) (by omega) rfl rfl (Nat.le_of_ble_eq_true rfl) (sp_X7_cellOf (by omega)  ?_)
        refine wp_bipush (8 : Int32) 64 dX2_along_62 kbipush_8 rfl ?_
        refine wp_irem 65 dX2_along_64 (by decide) rfl ?_
        refine wp_iload_n 66 dX2_along_65 rfl rfl ?_
        refine wp_if_ne 74 69 dX2_along_66 rfl rfl ⟨fun c4 => ?_, fun c4 => ?_⟩
        · replace H := H.1 c4
          refine wp_iconst (0 : Int32) 75 dX2_along_74 kiconst_0 rfl ?_
          refine wp_iadd 76 dX2_along_75 rfl ?_
          refine wp_istore 78 dX2_along_76 rfl (Nat.le_of_ble_eq_true rfl) rfl ?_
          refine wp_iload 80 dX2_along_78 rfl rfl ?_
          refine wp_bipush (8 : Int32) 82 dX2_along_80 kbipush_8 rfl ?_
          refine wp_cN (d - 1) 2 [.int (((iR v6 64) / (8 : Int32)) + (0 : Int32)), .int (8 : Int32)] [] 85 dX2_along_82 rfl (lk_X2_143 rfl) (by omega) rfl rfl (Nat.le_of_ble_eq_true rfl) (sp_X7_within (by omega)  ?_)
          refine wp_if_eq 98 88 dX2_along_85 rfl rfl ⟨fun c5 => ?_, fun c5 => ?_⟩
          · replace H := H.1 c5
            refine wp_iload 100 dX2_along_98 rfl rfl ?_
            exact wp_reti dX2_along_100 rfl H
          · replace H := H.2 c5
            refine wp_iload 90 dX2_along_88 rfl rfl ?_
            refine wp_bipush (8 : Int32) 92 dX2_along_90 kbipush_8 rfl ?_
            refine wp_cN (d - 1) 2 [.int (((iR v6 64) - (iR v6 64) / (8 : Int32) * (8 : Int32)) + (0 : Int32)), .int (8 : Int32)] [] 95 dX2_along_92 rfl (lk_X2_143 rfl) (by omega) rfl rfl (Nat.le_of_ble_eq_true rfl) (sp_X7_within (by omega)  ?_)
            refine wp_if_ne 101 98 dX2_along_95 rfl rfl ⟨fun c6 => ?_, fun c6 => ?_⟩
            · replace H := H.1 c6
              refine wp_aload_n 102 dX2_along_101 rfl rfl ?_
              refine wp_iload_n 103 dX2_along_102 rfl rfl ?_
              refine wp_bipush (8 : Int32) 105 dX2_along_103 kbipush_8 rfl ?_
              refine wp_iload 107 dX2_along_105 rfl rfl ?_
              refine wp_imul 108 dX2_along_107 rfl ?_
              refine wp_iload 110 dX2_along_108 rfl rfl ?_
              refine wp_iadd 111 dX2_along_110 rfl ?_
              have c7 := H.1; replace H := H.2
              refine wp_cV (d - 1) 2 [.int v1, .int (((8 : Int32) * (((iR v6 64) / (8 : Int32)) + (0 : Int32))) + (((iR v6 64) - (iR v6 64) / (8 : Int32) * (8 : Int32)) + (0 : Int32)))] [] 114 dX2_along_111 rfl (lk_X2_147 rfl) (by omega) (kSea_0 k_b) rfl rfl rfl (Nat.le_of_ble_eq_true rfl) (sp_X2_entered (by omega) k_b c7 ?_)
              refine wp_istore 116 dX2_along_114 rfl (Nat.le_of_ble_eq_true rfl) rfl ?_
              refine wp_iinc (-1 : Int32) 119 dX2_along_116 rfl rfl kiconst_m1 (Nat.le_of_ble_eq_true rfl) rfl ?_
              refine wp_goto 22 dX2_along_119 rfl ?_
              refine wp_drop 8 ?_
              refine wp_drop 9 ?_
              exact H
            · replace H := H.2 c6
              refine wp_iload 100 dX2_along_98 rfl rfl ?_
              exact wp_reti dX2_along_100 rfl H
        · replace H := H.2 c4
          refine wp_iload 71 dX2_along_69 rfl rfl ?_
          refine wp_goto 75 dX2_along_71 rfl ?_
          refine wp_iadd 76 dX2_along_75 rfl ?_
          refine wp_istore 78 dX2_along_76 rfl (Nat.le_of_ble_eq_true rfl) rfl ?_
          refine wp_iload 80 dX2_along_78 rfl rfl ?_
          refine wp_bipush (8 : Int32) 82 dX2_along_80 kbipush_8 rfl ?_
          refine wp_cN (d - 1) 2 [.int (((iR v6 64) / (8 : Int32)) + (0 : Int32)), .int (8 : Int32)] [] 85 dX2_along_82 rfl (lk_X2_143 rfl) (by omega) rfl rfl (Nat.le_of_ble_eq_true rfl) (sp_X7_within (by omega)  ?_)
          refine wp_if_eq 98 88 dX2_along_85 rfl rfl ⟨fun c8 => ?_, fun c8 => ?_⟩
          · replace H := H.1 c8
            refine wp_iload 100 dX2_along_98 rfl rfl ?_
            exact wp_reti dX2_along_100 rfl H
          · replace H := H.2 c8
            refine wp_iload 90 dX2_along_88 rfl rfl ?_
            refine wp_bipush (8 : Int32) 92 dX2_along_90 kbipush_8 rfl ?_
            refine wp_cN (d - 1) 2 [.int (((iR v6 64) - (iR v6 64) / (8 : Int32) * (8 : Int32)) + v5), .int (8 : Int32)] [] 95 dX2_along_92 rfl (lk_X2_143 rfl) (by omega) rfl rfl (Nat.le_of_ble_eq_true rfl) (sp_X7_within (by omega)  ?_)
            refine wp_if_ne 101 98 dX2_along_95 rfl rfl ⟨fun c9 => ?_, fun c9 => ?_⟩
            · replace H := H.1 c9
              refine wp_aload_n 102 dX2_along_101 rfl rfl ?_
              refine wp_iload_n 103 dX2_along_102 rfl rfl ?_
              refine wp_bipush (8 : Int32) 105 dX2_along_103 kbipush_8 rfl ?_
              refine wp_iload 107 dX2_along_105 rfl rfl ?_
              refine wp_imul 108 dX2_along_107 rfl ?_
              refine wp_iload 110 dX2_along_108 rfl rfl ?_
              refine wp_iadd 111 dX2_along_110 rfl ?_
              have c10 := H.1; replace H := H.2
              refine wp_cV (d - 1) 2 [.int v1, .int (((8 : Int32) * (((iR v6 64) / (8 : Int32)) + (0 : Int32))) + (((iR v6 64) - (iR v6 64) / (8 : Int32) * (8 : Int32)) + v5))] [] 114 dX2_along_111 rfl (lk_X2_147 rfl) (by omega) (kSea_0 k_b) rfl rfl rfl (Nat.le_of_ble_eq_true rfl) (sp_X2_entered (by omega) k_b c10 ?_)
              refine wp_istore 116 dX2_along_114 rfl (Nat.le_of_ble_eq_true rfl) rfl ?_
              refine wp_iinc (-1 : Int32) 119 dX2_along_116 rfl rfl kiconst_m1 (Nat.le_of_ble_eq_true rfl) rfl ?_
              refine wp_goto 22 dX2_along_119 rfl ?_
              refine wp_drop 8 ?_
              refine wp_drop 9 ?_
              exact H
            · replace H := H.2 c9
              refine wp_iload 100 dX2_along_98 rfl rfl ?_
              exact wp_reti dX2_along_100 rfl H
      · replace H := H.2 c3
        refine wp_iload 50 dX2_along_48 rfl rfl ?_
        refine wp_goto 54 dX2_along_50 rfl ?_
        refine wp_iadd 55 dX2_along_54 rfl ?_
        refine wp_istore 57 dX2_along_55 rfl (Nat.le_of_ble_eq_true rfl) rfl ?_
        refine wp_iload 59 dX2_along_57 rfl rfl ?_
        refine wp_cN (d - 1) 1 [.int v6] [] 62 dX2_along_59 rfl (lk_X2_86 rfl) (by omega) rfl rfl (Nat.le_of_ble_eq_true rfl) (sp_X7_cellOf (by omega)  ?_)
        refine wp_bipush (8 : Int32) 64 dX2_along_62 kbipush_8 rfl ?_
        refine wp_irem 65 dX2_along_64 (by decide) rfl ?_
        refine wp_iload_n 66 dX2_along_65 rfl rfl ?_
        refine wp_if_ne 74 69 dX2_along_66 rfl rfl ⟨fun c11 => ?_, fun c11 => ?_⟩
        · replace H := H.1 c11
          refine wp_iconst (0 : Int32) 75 dX2_along_74 kiconst_0 rfl ?_
          refine wp_iadd 76 dX2_along_75 rfl ?_
          refine wp_istore 78 dX2_along_76 rfl (Nat.le_of_ble_eq_true rfl) rfl ?_
          refine wp_iload 80 dX2_along_78 rfl rfl ?_
          refine wp_bipush (8 : Int32) 82 dX2_along_80 kbipush_8 rfl ?_
          refine wp_cN (d - 1) 2 [.int (((iR v6 64) / (8 : Int32)) + v5), .int (8 : Int32)] [] 85 dX2_along_82 rfl (lk_X2_143 rfl) (by omega) rfl rfl (Nat.le_of_ble_eq_true rfl) (sp_X7_within (by omega)  ?_)
          refine wp_if_eq 98 88 dX2_along_85 rfl rfl ⟨fun c12 => ?_, fun c12 => ?_⟩
          · replace H := H.1 c12
            refine wp_iload 100 dX2_along_98 rfl rfl ?_
            exact wp_reti dX2_along_100 rfl H
          · replace H := H.2 c12
            refine wp_iload 90 dX2_along_88 rfl rfl ?_
            refine wp_bipush (8 : Int32) 92 dX2_along_90 kbipush_8 rfl ?_
            refine wp_cN (d - 1) 2 [.int (((iR v6 64) - (iR v6 64) / (8 : Int32) * (8 : Int32)) + (0 : Int32)), .int (8 : Int32)] [] 95 dX2_along_92 rfl (lk_X2_143 rfl) (by omega) rfl rfl (Nat.le_of_ble_eq_true rfl) (sp_X7_within (by omega)  ?_)
            refine wp_if_ne 101 98 dX2_along_95 rfl rfl ⟨fun c13 => ?_, fun c13 => ?_⟩
            · replace H := H.1 c13
              refine wp_aload_n 102 dX2_along_101 rfl rfl ?_
              refine wp_iload_n 103 dX2_along_102 rfl rfl ?_
              refine wp_bipush (8 : Int32) 105 dX2_along_103 kbipush_8 rfl ?_
              refine wp_iload 107 dX2_along_105 rfl rfl ?_
              refine wp_imul 108 dX2_along_107 rfl ?_
              refine wp_iload 110 dX2_along_108 rfl rfl ?_
              refine wp_iadd 111 dX2_along_110 rfl ?_
              have c14 := H.1; replace H := H.2
              refine wp_cV (d - 1) 2 [.int v1, .int (((8 : Int32) * (((iR v6 64) / (8 : Int32)) + v5)) + (((iR v6 64) - (iR v6 64) / (8 : Int32) * (8 : Int32)) + (0 : Int32)))] [] 114 dX2_along_111 rfl (lk_X2_147 rfl) (by omega) (kSea_0 k_b) rfl rfl rfl (Nat.le_of_ble_eq_true rfl) (sp_X2_entered (by omega) k_b c14 ?_)
              refine wp_istore 116 dX2_along_114 rfl (Nat.le_of_ble_eq_true rfl) rfl ?_
              refine wp_iinc (-1 : Int32) 119 dX2_along_116 rfl rfl kiconst_m1 (Nat.le_of_ble_eq_true rfl) rfl ?_
              refine wp_goto 22 dX2_along_119 rfl ?_
              refine wp_drop 8 ?_
              refine wp_drop 9 ?_
              exact H
            · replace H := H.2 c13
              refine wp_iload 100 dX2_along_98 rfl rfl ?_
              exact wp_reti dX2_along_100 rfl H
        · replace H := H.2 c11
          refine wp_iload 71 dX2_along_69 rfl rfl ?_
          refine wp_goto 75 dX2_along_71 rfl ?_
          refine wp_iadd 76 dX2_along_75 rfl ?_
          refine wp_istore 78 dX2_along_76 rfl (Nat.le_of_ble_eq_true rfl) rfl ?_
          refine wp_iload 80 dX2_along_78 rfl rfl ?_
          refine wp_bipush (8 : Int32) 82 dX2_along_80 kbipush_8 rfl ?_
          refine wp_cN (d - 1) 2 [.int (((iR v6 64) / (8 : Int32)) + v5), .int (8 : Int32)] [] 85 dX2_along_82 rfl (lk_X2_143 rfl) (by omega) rfl rfl (Nat.le_of_ble_eq_true rfl) (sp_X7_within (by omega)  ?_)
          refine wp_if_eq 98 88 dX2_along_85 rfl rfl ⟨fun c15 => ?_, fun c15 => ?_⟩
          · replace H := H.1 c15
            refine wp_iload 100 dX2_along_98 rfl rfl ?_
            exact wp_reti dX2_along_100 rfl H
          · replace H := H.2 c15
            refine wp_iload 90 dX2_along_88 rfl rfl ?_
            refine wp_bipush (8 : Int32) 92 dX2_along_90 kbipush_8 rfl ?_
            refine wp_cN (d - 1) 2 [.int (((iR v6 64) - (iR v6 64) / (8 : Int32) * (8 : Int32)) + v5), .int (8 : Int32)] [] 95 dX2_along_92 rfl (lk_X2_143 rfl) (by omega) rfl rfl (Nat.le_of_ble_eq_true rfl) (sp_X7_within (by omega)  ?_)
            refine wp_if_ne 101 98 dX2_along_95 rfl rfl ⟨fun c16 => ?_, fun c16 => ?_⟩
            · replace H := H.1 c16
              refine wp_aload_n 102 dX2_along_101 rfl rfl ?_
              refine wp_iload_n 103 dX2_along_102 rfl rfl ?_
              refine wp_bipush (8 : Int32) 105 dX2_along_103 kbipush_8 rfl ?_
              refine wp_iload 107 dX2_along_105 rfl rfl ?_
              refine wp_imul 108 dX2_along_107 rfl ?_
              refine wp_iload 110 dX2_along_108 rfl rfl ?_
              refine wp_iadd 111 dX2_along_110 rfl ?_
              have c17 := H.1; replace H := H.2
              refine wp_cV (d - 1) 2 [.int v1, .int (((8 : Int32) * (((iR v6 64) / (8 : Int32)) + v5)) + (((iR v6 64) - (iR v6 64) / (8 : Int32) * (8 : Int32)) + v5))] [] 114 dX2_along_111 rfl (lk_X2_147 rfl) (by omega) (kSea_0 k_b) rfl rfl rfl (Nat.le_of_ble_eq_true rfl) (sp_X2_entered (by omega) k_b c17 ?_)
              refine wp_istore 116 dX2_along_114 rfl (Nat.le_of_ble_eq_true rfl) rfl ?_
              refine wp_iinc (-1 : Int32) 119 dX2_along_116 rfl rfl kiconst_m1 (Nat.le_of_ble_eq_true rfl) rfl ?_
              refine wp_goto 22 dX2_along_119 rfl ?_
              refine wp_drop 8 ?_
              refine wp_drop 9 ?_
              exact H
            · replace H := H.2 c16
              refine wp_iload 100 dX2_along_98 rfl rfl ?_
              exact wp_reti dX2_along_100 rfl H

def kSgI (neg : Bool) : Int32 := if neg then -1 else 1
theorem lp_along (hd : 2 ≤ d) {b : Nat} (hb : kSea b) {a2 a4 : Int32} {p q : Nat} (hp : p < 5) (hq : q < 64) (hport : h (b + 4) p = nI q) {ax : Nat} (hax : ax < 2) (neg : Bool) : ∀ (m : Nat) (x : Nat × Nat), m < 2 ^ 31 → x.1 < 64 → x.2 < 3 → Q (nI (64 * (kSl (h (b + 1)) q ax neg m x).2 + (kSl (h (b + 1)) q ax neg m x).1)) h → at_X2_along_22 G d Q b (nI p) a2 (nI ax) a4 (kSgI neg) (nI (64 * x.2 + x.1)) (nI m) h := by
  intro m
  induction m with
  | zero =>
    intro x _ h1 h2 hq
    exact sg_X2_along_22 hd hb ⟨fun _ => hq, fun z => absurd (by decide) z⟩
  | succ m ih =>
    intro x hm h1 h2 hq
    obtain ⟨c, s⟩ := x
    have h1 : c < 64 := h1
    have h2 : s < 3 := h2
    have hcl : (nI p).toNatClampNeg = p := nI_clamp (by omega)
    refine sg_X2_along_22 hd hb ⟨fun z => absurd z (nI_nle (by omega) hm), fun _ => ?_⟩
    show (¬ nI (64 * s + c) / 64 = 0 → Q (nI (64 * s + c)) h) ∧ _
    rw [iD64 h2 h1, iR64 h2 h1, hcl, hport]
    refine ⟨fun z => ?_, fun z => ?_⟩
    · have hs0 : ¬ s = 0 := fun e => z (by rw [e]; rfl)
      rw [kSl_done (x := (c, s)) hs0] at hq
      exact hq
    · have hs0 : s = 0 := by
        by_cases e : s = 0
        · exact e
        · exact absurd z (nI_ne0 (by omega) (by omega))
      subst hs0
      have hv := vp_in_nI (n := p) (N := 5) hp (by decide)
      have stop : kNx ax neg c = none → Q (nI (64 * 0 + c)) h := fun e => by
        rw [kSl_stop (x := (c, 0)) e] at hq
        exact hq
      have go : ∀ y : Int32, (kNx ax neg c).isSome = true → y = nI ((kNx ax neg c).getD 0) → (vp_in (nI p) 5 ∧ vp_in y 64) ∧ at_X2_along_22 G d Q b (nI p) a2 (nI ax) a4 (kSgI neg) (kEnt (h (b + 1)) (nI q) y) (nI (m + 1) + -1) h := by
        intro y hy e
        cases e2 : kNx ax neg c with
        | none => rw [e2] at hy; cases hy
        | some c' =>
          rw [e2] at e
          have hc' := kNx_lt h1 e2
          have e : y = nI c' := e
          rw [e, kEnt_n (by omega) hc', pk_m1]
          refine ⟨⟨hv, vp_in_nI hc' (by decide)⟩, ih (c', kSta (h (b + 1)) q c') (by omega) hc' (kSta_lt _ _ _) ?_⟩
          rw [kSl_go (x := (c, 0)) rfl e2] at hq
          exact hq
      have cas : kNx ax neg c = none ∨ (kNx ax neg c).isSome = true := by
        cases kNx ax neg c with
        | none => exact Or.inl rfl
        | some c' => exact Or.inr rfl
      have hr := kdir_r c h1
      have hc := kdir_c c h1
      have hax2 : ax = 0 ∨ ax = 1 := by omega
      rcases hax2 with rfl | rfl
      · refine ⟨fun _ => ⟨fun e => absurd rfl e, fun _ => ⟨fun e => absurd hr (kb_0.mp e), fun _ => ?_⟩⟩, fun e => absurd e (by decide)⟩
        cases neg with
        | false =>
          obtain ⟨d1, d2⟩ := kdir_0p c h1
          exact ⟨fun e => by
            rcases cas with e2 | e2
            · exact absurd (kb_n0.mp e) (d1 e2)
            · exact go _ e2 (d2 e2).2, fun e => by
            rcases cas with e2 | e2
            · exact stop e2
            · exact absurd (d2 e2).1 (kb_0.mp e)⟩
        | true =>
          obtain ⟨d1, d2⟩ := kdir_0n c h1
          exact ⟨fun e => by
            rcases cas with e2 | e2
            · exact absurd (kb_n0.mp e) (d1 e2)
            · exact go _ e2 (d2 e2).2, fun e => by
            rcases cas with e2 | e2
            · exact stop e2
            · exact absurd (d2 e2).1 (kb_0.mp e)⟩
      · refine ⟨fun e => absurd rfl e, fun _ => ⟨fun _ => ?_, fun e => absurd e (by decide)⟩⟩
        cases neg with
        | false =>
          obtain ⟨d1, d2⟩ := kdir_1p c h1
          exact ⟨fun e => by
            rcases cas with e2 | e2
            · exact stop e2
            · exact absurd (d2 e2).1 (kb_0.mp e), fun e => ⟨fun e3 => by
            rcases cas with e2 | e2
            · exact absurd (kb_n0.mp e) (d1 e2)
            · exact go _ e2 (d2 e2).2, fun e3 => absurd hc (kb_0.mp e3)⟩⟩
        | true =>
          obtain ⟨d1, d2⟩ := kdir_1n c h1
          exact ⟨fun e => by
            rcases cas with e2 | e2
            · exact stop e2
            · exact absurd (d2 e2).1 (kb_0.mp e), fun e => ⟨fun e3 => by
            rcases cas with e2 | e2
            · exact absurd (kb_n0.mp e) (d1 e2)
            · exact go _ e2 (d2 e2).2, fun e3 => absurd hc (kb_0.mp e3)⟩⟩
def kFar (x : Int32) : Nat := (if x < 0 then -x else x).toNatClampNeg
def kAl (la : Nat → Int32) (q ax : Nat) (far : Int32) (x : Nat × Nat) : Nat × Nat := kSl la q ax (decide (far < 0)) (kFar far) x
def kPl (x : Nat × Nat) : Int32 := nI (64 * x.2 + x.1)
theorem clamp0 {x : Int32} (h : x ≤ 0) : x.toNatClampNeg = 0 := by
  rw [Int32.le_iff_toInt_le] at h
  show x.toInt.toNat = 0
  have : (0 : Int32).toInt = 0 := rfl
  omega
theorem kFar_cases (x : Int32) : ((if x < 0 then -x else x) ≤ 0 ∧ kFar x = 0) ∨ ∃ m, m < 2 ^ 31 ∧ (if x < 0 then -x else x) = nI m ∧ kFar x = m := by
  unfold kFar
  generalize (if x < 0 then -x else x) = y
  by_cases e : y ≤ 0
  · exact Or.inl ⟨e, clamp0 e⟩
  · obtain ⟨m, hm, hy⟩ := nI_of (x := y) (len (Int32.le_of_lt (nle e)))
    exact Or.inr ⟨m, hm, hy, by rw [hy, nI_clamp hm]⟩
theorem sp_X2_along (hd : 2 ≤ d) {b : Nat} (hb : kSea b) {far : Int32} {p q : Nat} (hp : p < 5) (hq : q < 64) (hport : h (b + 4) p = nI q) {ax : Nat} (hax : ax < 2) {x : Nat × Nat} (h1 : x.1 < 64) (h2 : x.2 < 3) (k : Q (kPl (kAl (h (b + 1)) q ax far x)) h) : Cal G d m_X2_along [.ref b, .int (nI p), .int (kPl x), .int (nI ax), .int far] h Q := by
  unfold kAl at k
  have key : ∀ left : Int32, left = (if far < 0 then -far else far) → at_X2_along_22 G d Q b (nI p) (kPl x) (nI ax) far (kSgI (decide (far < 0))) (kPl x) left h := by
    intro left hl
    rcases kFar_cases far with ⟨e1, e2⟩ | ⟨m, hm, e1, e2⟩
    · rw [e2] at k
      rw [← hl] at e1
      exact sg_X2_along_22 hd hb ⟨fun _ => k, fun z => absurd e1 z⟩
    · rw [e2] at k
      rw [hl, e1]
      exact lp_along hd hb hp hq hport hax _ m x hm h1 h2 k
  refine cg_X2_along hd hb ⟨fun c => ?_, fun c => ?_⟩
  · have hn : ¬ far < 0 := len c
    have := key (far * 1) (by rw [if_neg hn, Int32.mul_one])
    rw [decide_eq_false hn] at this
    exact this
  · have hn : far < 0 := nle c
    have := key (far * (-1)) (by rw [if_pos hn, Int32.mul_neg, Int32.mul_one])
    rw [decide_eq_true hn] at this
    exact this
/-- an hour's way, by the wind -/
def kSai (la : Nat → Int32) (q : Nat) (e s : Int32) (x : Nat × Nat) : Nat × Nat := kAl la q 1 (s / 3) (kAl la q 0 (e / 3) x)
theorem kAl_lt {la : Nat → Int32} {q ax : Nat} {far : Int32} {x : Nat × Nat} (h1 : x.1 < 64) (h2 : x.2 < 3) : (kAl la q ax far x).1 < 64 ∧ (kAl la q ax far x).2 < 3 := kSl_lt _ _ h1 h2
theorem kSai_lt {la : Nat → Int32} {q : Nat} {e s : Int32} {x : Nat × Nat} (h1 : x.1 < 64) (h2 : x.2 < 3) : (kSai la q e s x).1 < 64 ∧ (kSai la q e s x).2 < 3 := kAl_lt (kAl_lt h1 h2).1 (kAl_lt h1 h2).2
theorem kSai_done {la : Nat → Int32} {q : Nat} {e s : Int32} {x : Nat × Nat} (h : ¬ x.2 = 0) : kSai la q e s x = x := by
  unfold kSai kAl
  rw [kSl_done h, kSl_done h]
theorem sg_X2_sailed_0 {G : kG} {d : Nat} {Q : Int32 → kM → Prop} {b : Nat} {a1 : Int32} {a2 : Int32} {a3 : Int32} {a4 : Int32} {h : kM} (hd : 3 ≤ d) (k_b : kSea b) (H :
    Cal G (d - 1) m_X2_along [.ref b, .int a1, .int a2, .int (0 : Int32), .int (a3 / (3 : Int32))] h (fun x1 h2 =>
      Cal G (d - 1) m_X2_along [.ref b, .int a1, .int x1, .int (1 : Int32), .int (a4 / (3 : Int32))] h2 (fun x3 h4 =>
        Q x3 h4
      )
    )) : Wp G d m_X2_sailed (kEo G d m_X2_sailed Q) 0 [.ref b, .int a1, .int a2, .int a3, .int a4, .null] [] h := by
  refine wp_aload_n 1 dX2_sailed_0 rfl rfl ?_
  refine wp_iload_n 2 dX2_sailed_1 rfl rfl ?_
  refine wp_iload_n 3 dX2_sailed_2 rfl rfl ?_
  refine wp_iconst (0 : Int32) 4 dX2_sailed_3 kiconst_0 rfl ?_
  refine wp_iload_n 5 dX2_sailed_4 rfl rfl ?_
  refine wp_iconst (3 : Int32) 6 dX2_sailed_5 kiconst_3 rfl ?_
  refine wp_idiv 7 dX2_sailed_6 (by decide) rfl ?_
  refine wp_cV (d - 1) 4 [.int a1, .int a2, .int (0 : Int32), .int (a3 / (3 : Int32))] [] 10 dX2_sailed_7 rfl (lk_X2_140 rfl) (by omega) (kSea_0 k_b) rfl rfl rfl (Nat.le_of_ble_eq_true rfl) (H.mono (fun x1 h2 H => ?_))
  refine wp_istore 12 dX2_sailed_10 rfl (Nat.le_of_ble_eq_true rfl) rfl ?_
  refine wp_aload_n 13 dX2_sailed_12 rfl rfl ?_
  refine wp_iload_n 14 dX2_sailed_13 rfl rfl ?_
  refine wp_iload 16 dX2_sailed_14 rfl rfl ?_
  refine wp_iconst (1 : Int32) 17 dX2_sailed_16 kiconst_1 rfl ?_
  refine wp_iload 19 dX2_sailed_17 rfl rfl ?_
  refine wp_iconst (3 : Int32) 20 dX2_sailed_19 kiconst_3 rfl ?_
  refine wp_idiv 21 dX2_sailed_20 (by decide) rfl ?_
  refine wp_cV (d - 1) 4 [.int a1, .int x1, .int (1 : Int32), .int (a4 / (3 : Int32))] [] 24 dX2_sailed_21 rfl (lk_X2_140 rfl) (by omega) (kSea_0 k_b) rfl rfl rfl (Nat.le_of_ble_eq_true rfl) (H.mono (fun x3 h4 H => ?_))
  exact wp_reti dX2_sailed_24 rfl H

theorem cg_X2_sailed {G : kG} {d : Nat} {Q : Int32 → kM → Prop} {b : Nat} {a1 : Int32} {a2 : Int32} {a3 : Int32} {a4 : Int32} {h : kM} (hd : 3 ≤ d) (k_b : kSea b) (H :
    Cal G (d - 1) m_X2_along [.ref b, .int a1, .int a2, .int (0 : Int32), .int (a3 / (3 : Int32))] h (fun x1 h2 =>
      Cal G (d - 1) m_X2_along [.ref b, .int a1, .int x1, .int (1 : Int32), .int (a4 / (3 : Int32))] h2 (fun x3 h4 =>
        Q x3 h4
      )
    )) : Cal G d m_X2_sailed [.ref b, .int a1, .int a2, .int a3, .int a4] h Q :=
  Cal.of [.ref b, .int a1, .int a2, .int a3, .int a4, .null] (by decide +kernel) (Nat.le_of_ble_eq_true rfl) rfl (sg_X2_sailed_0 hd k_b H)

theorem sp_X2_sailed (hd : 3 ≤ d) {b : Nat} (hb : kSea b) {e s : Int32} {p q : Nat} (hp : p < 5) (hq : q < 64) (hport : h (b + 4) p = nI q) {x : Nat × Nat} (h1 : x.1 < 64) (h2 : x.2 < 3) (k : Q (kPl (kSai (h (b + 1)) q e s x)) h) : Cal G d m_X2_sailed [.ref b, .int (nI p), .int (kPl x), .int e, .int s] h Q := by
  refine cg_X2_sailed hd hb ?_
  have g := kAl_lt (la := h (b + 1)) (q := q) (ax := 0) (far := e / 3) h1 h2
  refine sp_X2_along (d := d - 1) (by omega) hb hp hq hport (ax := 0) (by decide) h1 h2 ?_
  exact sp_X2_along (d := d - 1) (by omega) hb hp hq hport (ax := 1) (by decide) g.1 g.2 k
end Sail

