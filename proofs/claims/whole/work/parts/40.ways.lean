/-! soonest: ways of one ship, and the class's search -/
section Ways
variable {G : kG} {d : Nat} {Q : Int32 → kM → Prop} {h : kM}
/-- what a knot of the ship adds to the wind of the hour t ahead, its knots being loosed as s says -/
def kC (v : kM) (p : Nat) (s : Nat → Int32) (t : Nat) (what : Int32) (k : Nat) : Int32 := if s k = -1 then 0 else kShare (v 7 (3 * p + k)) what * kFo v (3 * p + k) (nI t - s k)
def kE2 (v : kM) (p : Nat) (s : Nat → Int32) (t : Nat) (what : Int32) : Int32 := kSum (kC v p s t what) (kWn v what (v 0 13 + nI t)) 3
def kNp (v : kM) (p : Nat) (s : Nat → Int32) (t : Nat) (x : Nat × Nat) : Nat × Nat := kSai (v 1) (kPort v p) (kE2 v p s t 0) (kE2 v p s t 1) x
abbrev kMa (v : kM) (p : Nat) (s : Nat → Int32) (t : Nat) (x : Nat × Nat) (k : Nat) : Prop := s k = -1 ∧ v 8 (3 * p + k) = -1 ∧ kDay (v 0 13 + nI t) ∧ ¬ nI x.2 = 1
/-- an end of a way: home behind T hours, L knots loosed, the row R -/
def kOut (v : kM) (p : Nat) : Nat → Nat → Nat × Nat → (Nat → Int32) → Nat → Nat → Nat → Nat → Nat → Prop
  | 0, t, x, _, l, r, T, L, R => x.2 = 2 ∧ T = t ∧ L = l ∧ R = r
  | m + 1, t, x, s, l, r, T, L, R => (x.2 = 2 ∧ T = t ∧ L = l ∧ R = r) ∨ (x.2 = 0 ∧ ((∃ k, k < 3 ∧ kMa v p s t x k ∧ kOut v p m (t + 1) (kNp v p (upd s k (nI t)) t x) (upd s k (nI t)) (l + 1) (4 * r + k) T L R) ∨ kOut v p m (t + 1) (kNp v p s t x) s l (4 * r + 3) T L R))
theorem kOut_h {v : kM} {p m t l r : Nat} {x : Nat × Nat} {s : Nat → Int32} {T L R : Nat} (hx : x.2 = 2) : kOut v p m t x s l r T L R ↔ T = t ∧ L = l ∧ R = r := by
  cases m with
  | zero => exact ⟨fun q => q.2, fun q => ⟨hx, q⟩⟩
  | succ m =>
    refine ⟨fun q => ?_, fun q => Or.inl ⟨hx, q⟩⟩
    rcases q with q | q
    · exact q.2
    · exact absurd (hx.symm.trans q.1) (by decide)
theorem kOut_w {v : kM} {p m t l r : Nat} {x : Nat × Nat} {s : Nat → Int32} {T L R : Nat} (hx : x.2 = 1) : ¬ kOut v p m t x s l r T L R := by
  cases m with
  | zero => exact fun q => absurd (hx.symm.trans q.1) (by decide)
  | succ m =>
    intro q
    rcases q with q | q
    · exact absurd (hx.symm.trans q.1) (by decide)
    · exact absurd (hx.symm.trans q.1) (by decide)
theorem pw4 (r k P : Nat) (hk : k ≤ 3) : r * (P * 4) ≤ (4 * r + k) * P ∧ (4 * r + k + 1) * P ≤ (r + 1) * (P * 4) := by
  have e1 : r * (P * 4) = (4 * r) * P := by rw [Nat.mul_comm P 4, ← Nat.mul_assoc, Nat.mul_comm r 4]
  have e2 : (r + 1) * (P * 4) = (4 * (r + 1)) * P := by rw [Nat.mul_comm P 4, ← Nat.mul_assoc, Nat.mul_comm (r + 1) 4]
  rw [e1, e2]
  exact ⟨Nat.mul_le_mul_right P (by omega), Nat.mul_le_mul_right P (by omega)⟩
theorem kOut_b {v : kM} {p : Nat} : ∀ (m t : Nat) (x : Nat × Nat) (s : Nat → Int32) (l r T L R : Nat), kOut v p m t x s l r T L R → t ≤ T ∧ T ≤ t + m ∧ r * 4 ^ (T - t) ≤ R ∧ R < (r + 1) * 4 ^ (T - t)
  | 0, t, x, s, l, r, T, L, R, q => by
    obtain ⟨-, rfl, -, rfl⟩ := q
    rw [Nat.sub_self, Nat.pow_zero]
    omega
  | m + 1, t, x, s, l, r, T, L, R, q => by
    have child : ∀ (k : Nat) (y : Nat × Nat) (s' : Nat → Int32) (l' : Nat), k ≤ 3 → kOut v p m (t + 1) y s' l' (4 * r + k) T L R → t ≤ T ∧ T ≤ t + (m + 1) ∧ r * 4 ^ (T - t) ≤ R ∧ R < (r + 1) * 4 ^ (T - t) := fun k y s' l' hk q => by
      obtain ⟨b1, b2, b3, b4⟩ := kOut_b m (t + 1) y s' l' (4 * r + k) T L R q
      have e : T - t = (T - (t + 1)) + 1 := by omega
      rw [e, Nat.pow_succ]
      obtain ⟨c1, c2⟩ := pw4 r k (4 ^ (T - (t + 1))) hk
      exact ⟨by omega, by omega, Nat.le_trans c1 b3, Nat.lt_of_lt_of_le b4 c2⟩
    rcases q with ⟨-, rfl, -, rfl⟩ | ⟨-, ⟨k, hk, -, q⟩ | q⟩
    · rw [Nat.sub_self, Nat.pow_zero]
      omega
    · exact child k _ _ _ (by omega) q
    · exact child 3 _ _ _ (by omega) q
/-- sooner; by fewer knots; by a lesser row -/
def kLt (T L R T' L' R' : Nat) : Prop := T < T' ∨ (T = T' ∧ (L < L' ∨ (L = L' ∧ R < R')))
/-- the best so far, behind ends of a kind -/
def kPo (P : Nat → Nat → Nat → Prop) (b b' : Nat × Nat × Nat) : Prop := (b' = b ∨ P b'.1 b'.2.1 b'.2.2) ∧ (∀ T L R, P T L R → ¬ kLt T L R b'.1 b'.2.1 b'.2.2) ∧ ¬ kLt b.1 b.2.1 b.2.2 b'.1 b'.2.1 b'.2.2
theorem kLt_irr (T L R : Nat) : ¬ kLt T L R T L R := by unfold kLt; omega
theorem kLt_tr {a b c a' b' c' a'' b'' c'' : Nat} (h1 : ¬ kLt a b c a' b' c') (h2 : ¬ kLt a' b' c' a'' b'' c'') : ¬ kLt a b c a'' b'' c'' := by
  unfold kLt at *
  omega
theorem kPo.no {P : Nat → Nat → Nat → Prop} {b : Nat × Nat × Nat} (hP : ∀ T L R, P T L R → ¬ kLt T L R b.1 b.2.1 b.2.2) : kPo P b b := ⟨Or.inl rfl, hP, kLt_irr _ _ _⟩
theorem kPo.tr {P1 P2 P : Nat → Nat → Nat → Prop} {b b1 b2 : Nat × Nat × Nat} (h1 : kPo P1 b b1) (h2 : kPo P2 b1 b2) (i1 : ∀ T L R, P1 T L R → P T L R) (i2 : ∀ T L R, P2 T L R → P T L R) (io : ∀ T L R, P T L R → P1 T L R ∨ P2 T L R) : kPo P b b2 := by
  refine ⟨?_, fun T L R q => ?_, kLt_tr h1.2.2 h2.2.2⟩
  · rcases h2.1 with e | e
    · rcases h1.1 with e' | e'
      · exact Or.inl (e.trans e')
      · rw [e]
        exact Or.inr (i1 _ _ _ e')
    · exact Or.inr (i2 _ _ _ e)
  · rcases io T L R q with q | q
    · exact kLt_tr (h1.2.1 T L R q) h2.2.2
    · exact h2.2.1 T L R q
/-- the first of a row's figures -/
def kF1 (t r : Nat) : Nat := if t = 0 then 3 else r / 4 ^ (t - 1)
theorem kF1_s {t r k : Nat} (hk : k ≤ 3) (hr : r < 4 ^ t) : kF1 (t + 1) (4 * r + k) = if t = 0 then k else kF1 t r := by
  unfold kF1
  rw [if_neg (Nat.succ_ne_zero t), Nat.add_sub_cancel]
  by_cases e : t = 0
  · subst e
    rw [if_pos rfl, Nat.pow_zero, Nat.div_one]
    rw [Nat.pow_zero] at hr
    omega
  · rw [if_neg e, if_neg e]
    obtain ⟨u, rfl⟩ : ∃ u, t = u + 1 := ⟨t - 1, by omega⟩
    rw [Nat.pow_succ, Nat.add_sub_cancel, Nat.mul_comm (4 ^ u) 4, ← Nat.div_div_eq_div_mul, show (4 * r + k) / 4 = r by omega]
/-- rows seen so far are less than those to come -/
def kOr (n : Nat) (b : Nat × Nat × Nat) (t r : Nat) : Prop := t ≤ b.1 → b.1 ≤ n → b.2.2 < r * 4 ^ (b.1 - t)
theorem kOr.mono {n : Nat} {b : Nat × Nat × Nat} {t r r' : Nat} (o : kOr n b t r) (h : r ≤ r') : kOr n b t r' := fun a c => Nat.lt_of_lt_of_le (o a c) (Nat.mul_le_mul_right _ h)
theorem kOr.down {n : Nat} {b : Nat × Nat × Nat} {t r : Nat} (o : kOr n b t r) : kOr n b (t + 1) (4 * r) := fun a c => by
  have e : b.1 - t = (b.1 - (t + 1)) + 1 := by omega
  have q := o (by omega) c
  rw [e, Nat.pow_succ, Nat.mul_comm (4 ^ (b.1 - (t + 1))) 4, ← Nat.mul_assoc, Nat.mul_comm r 4] at q
  exact q
theorem kOr.up {n : Nat} {b : Nat × Nat × Nat} {t r : Nat} (o : kOr n b (t + 1) (4 * (r + 1))) (hb : t = b.1 → b.1 ≤ n → b.2.2 < r + 1) : kOr n b t (r + 1) := fun a c => by
  by_cases e0 : t = b.1
  · rw [← e0, Nat.sub_self, Nat.pow_zero, Nat.mul_one]
    exact hb e0 c
  · have e : b.1 - t = (b.1 - (t + 1)) + 1 := by omega
    have q := o (by omega) c
    rw [e, Nat.pow_succ, Nat.mul_comm (4 ^ (b.1 - (t + 1))) 4, ← Nat.mul_assoc, Nat.mul_comm (r + 1) 4]
    exact q
/-- what the class's search holds -/
def kSc (h0 h : kM) (p n : Nat) (s : Nat → Int32) : Prop := (∀ a, ¬ (71 ≤ a ∧ a ≤ 75) → a ≠ 14 → a ≠ 17 → h a = h0 a) ∧ h 71 4 = nI p ∧ h 71 5 = nI n ∧ (∀ t, t < n → h 72 t = kWn (kVw h0 1) 0 (kVw h0 1 0 13 + nI t) ∧ h 73 t = kWn (kVw h0 1) 1 (kVw h0 1 0 13 + nI t)) ∧ (∀ k, k < 3 → ∀ j, j < n → h 74 (10 * k + j) = kFo (kVw h0 1) (3 * p + k) (nI j)) ∧ ∀ k, k < 3 → h 75 k = s k
theorem kSc.eq {h0 h : kM} {p n : Nat} {s : Nat → Int32} (c : kSc h0 h p n s) : kVEq (kVw h0 1) (kVw h 1) := fun a x y => c.1 (1 + a) (by omega) (by omega) (by omega)
/-- only the search's numbers (cell 71, slots from 6 on) and since differ -/
theorem kSc.set {h0 h h1 : kM} {p n : Nat} {s s' : Nat → Int32} (c : kSc h0 h p n s) (ho : ∀ a, a ≠ 71 → a ≠ 75 → h1 a = h a) (h4 : h1 71 4 = h 71 4) (h5 : h1 71 5 = h 71 5) (hs : ∀ k, k < 3 → h1 75 k = s' k) : kSc h0 h1 p n s' := by
  obtain ⟨c1, c2, c3, c4, c5, c6⟩ := c
  refine ⟨fun a x y z => by rw [ho a (by omega) (by omega), c1 a x y z], by rw [h4, c2], by rw [h5, c3], fun t ht => ?_, fun k hk j hj => ?_, hs⟩
  · rw [ho 72 (by decide) (by decide), ho 73 (by decide) (by decide)]
    exact c4 t ht
  · rw [ho 74 (by decide) (by decide)]
    exact c5 k hk j hj
/-- since as it may be at the hour t -/
def kSv (s : Nat → Int32) (t : Nat) : Prop := ∀ k, k < 3 → s k = -1 ∨ ∃ u, u ≤ t ∧ s k = nI u
def at_X3_behind_19 (G : kG) (d : Nat) (Q : Int32 → kM → Prop)  (v2 : Int32) (v3 : Int32) (v4 : Int32) (v5 : Int32) (v6 : Int32) (h : kM) : Prop := Wp G d m_X3_behind (kEo G d m_X3_behind Q) 19 [.ref 71, .ref 1, .int v2, .int v3, .int v4, .int v5, .int v6, .null, .null] [] h
theorem sg_X3_behind_0 {G : kG} {d : Nat} {Q : Int32 → kM → Prop}  {a1 : Int32} {a2 : Int32} {h : kM} (hd : 4 ≤ d)  (H :
    (vp_in a1 10) ∧
    (vp_in a1 10) ∧
    at_X3_behind_19 G d Q a1 a2 (h 72 (a1).toNatClampNeg) (h 73 (a1).toNatClampNeg) (0 : Int32) h) : Wp G d m_X3_behind (kEo G d m_X3_behind Q) 0 [.ref 71, .ref 1, .int a1, .int a2, .null, .null, .null, .null, .null] [] h := by
  refine wp_aload_n 1 dX3_behind_0 rfl rfl ?_
  refine wp_getR 1 72 4 dX3_behind_1 rfl fl_X3_9 kd_71 rfl rfl rfl rfl ?_
  refine wp_iload_n 5 dX3_behind_4 rfl rfl ?_
  have c1 := H.1; replace H := H.2
  refine wp_iald 6 dX3_behind_5 rfl kd_72 c1 ?_
  refine wp_istore 8 dX3_behind_6 rfl (Nat.le_of_ble_eq_true rfl) rfl ?_
  refine wp_aload_n 9 dX3_behind_8 rfl rfl ?_
  refine wp_getR 2 73 12 dX3_behind_9 rfl fl_X3_15 kd_71 rfl rfl rfl rfl ?_
  refine wp_iload_n 13 dX3_behind_12 rfl rfl ?_
  have c2 := H.1; replace H := H.2
  refine wp_iald 14 dX3_behind_13 rfl kd_73 c2 ?_
  refine wp_istore 16 dX3_behind_14 rfl (Nat.le_of_ble_eq_true rfl) rfl ?_
  refine wp_iconst (0 : Int32) 17 dX3_behind_16 kiconst_0 rfl ?_
  refine wp_istore 19 dX3_behind_17 rfl (Nat.le_of_ble_eq_true rfl) rfl ?_
  exact H

theorem cg_X3_behind {G : kG} {d : Nat} {Q : Int32 → kM → Prop}  {a1 : Int32} {a2 : Int32} {h : kM} (hd : 4 ≤ d)  (H :
    (vp_in a1 10) ∧
    (vp_in a1 10) ∧
    at_X3_behind_19 G d Q a1 a2 (h 72 (a1).toNatClampNeg) (h 73 (a1).toNatClampNeg) (0 : Int32) h) : Cal G d m_X3_behind [.ref 71, .ref 1, .int a1, .int a2] h Q :=
  Cal.of [.ref 71, .ref 1, .int a1, .int a2, .null, .null, .null, .null, .null] (by decide +kernel) (Nat.le_of_ble_eq_true rfl) rfl (sg_X3_behind_0 hd  H)

theorem sg_X3_behind_19 {G : kG} {d : Nat} {Q : Int32 → kM → Prop}  {v2 : Int32} {v3 : Int32} {v4 : Int32} {v5 : Int32} {v6 : Int32} {h : kM} (hd : 4 ≤ d)  (H :
    (((3 : Int32) ≤ v6 →
      Cal G (d - 1) m_X2_sailed [.ref 1, .int (h 71 4), .int v3, .int v4, .int v5] h (fun x2 h3 =>
        Q x2 h3
      )
    ) ∧ (¬ ((3 : Int32) ≤ v6) →
      (vp_in v6 3) ∧
      (((h 75 (v6).toNatClampNeg) = (-1 : Int32) →
        at_X3_behind_19 G d Q v2 v3 v4 v5 (v6 + (1 : Int32)) h
      ) ∧ (¬ ((h 75 (v6).toNatClampNeg) = (-1 : Int32)) →
        (vp_in v6 3) ∧
        (vp_in ((((10 : Int32) * v6) + v2) - (h 75 (v6).toNatClampNeg)) 30) ∧
        (vp_in (((3 : Int32) * (h 71 4)) + v6) 15) ∧
        at_X3_behind_19 G d Q v2 v3 (v4 + ((kShare (h 8 ((((3 : Int32) * (h 71 4)) + v6)).toNatClampNeg) (0 : Int32)) * (h 74 (((((10 : Int32) * v6) + v2) - (h 75 (v6).toNatClampNeg))).toNatClampNeg))) (v5 + ((kShare (h 8 ((((3 : Int32) * (h 71 4)) + v6)).toNatClampNeg) (1 : Int32)) * (h 74 (((((10 : Int32) * v6) + v2) - (h 75 (v6).toNatClampNeg))).toNatClampNeg))) (v6 + (1 : Int32)) h
      ))
    ))) : at_X3_behind_19 G d Q v2 v3 v4 v5 v6 h := by
  show Wp G d m_X3_behind (kEo G d m_X3_behind Q) 19 [.ref 71, .ref 1, .int v2, .int v3, .int v4, .int v5, .int v6, .null, .null] [] h
  refine wp_iload 21 dX3_behind_19 rfl rfl ?_
  refine wp_iconst (3 : Int32) 22 dX3_behind_21 kiconst_3 rfl ?_
  refine wp_icmp_ge 108 25 dX3_behind_22 rfl rfl ⟨fun c1 => ?_, fun c1 => ?_⟩
  · replace H := H.1 c1
    refine wp_aload_n 109 dX3_behind_108 rfl rfl ?_
    refine wp_aload_n 110 dX3_behind_109 rfl rfl ?_
    refine wp_getI 113 dX3_behind_110 rfl fl_X3_24 kd_71 rfl ?_
    refine wp_iload_n 114 dX3_behind_113 rfl rfl ?_
    refine wp_iload 116 dX3_behind_114 rfl rfl ?_
    refine wp_iload 118 dX3_behind_116 rfl rfl ?_
    refine wp_cV (d - 1) 4 [.int (h 71 4), .int v3, .int v4, .int v5] [] 121 dX3_behind_118 rfl (lk_X3_88 rfl) (by omega) kd_1 rfl rfl rfl (Nat.le_of_ble_eq_true rfl) (H.mono (fun x2 h3 H => ?_))
    exact wp_reti dX3_behind_121 rfl H
  · replace H := H.2 c1
    refine wp_aload_n 26 dX3_behind_25 rfl rfl ?_
    refine wp_getR 4 75 29 dX3_behind_26 rfl fl_X3_21 kd_71 rfl rfl rfl rfl ?_
    refine wp_iload 31 dX3_behind_29 rfl rfl ?_
    have c4 := H.1; replace H := H.2
    refine wp_iald 32 dX3_behind_31 rfl kd_75 c4 ?_
    refine wp_iconst (-1 : Int32) 33 dX3_behind_32 kiconst_m1 rfl ?_
    refine wp_icmp_eq 102 36 dX3_behind_33 rfl rfl ⟨fun c5 => ?_, fun c5 => ?_⟩
    · replace H := H.1 c5
      refine wp_iinc (1 : Int32) 105 dX3_behind_102 rfl rfl kiconst_1 (Nat.le_of_ble_eq_true rfl) rfl ?_
      refine wp_goto 19 dX3_behind_105 rfl ?_
      exact H
    · replace H := H.2 c5
      refine wp_aload_n 37 dX3_behind_36 rfl rfl ?_
      refine wp_getR 3 74 40 dX3_behind_37 rfl fl_X3_18 kd_71 rfl rfl rfl rfl ?_
      refine wp_bipush (10 : Int32) 42 dX3_behind_40 kbipush_10 rfl ?_
      refine wp_iload 44 dX3_behind_42 rfl rfl ?_
      refine wp_imul 45 dX3_behind_44 rfl ?_
      refine wp_iload_n 46 dX3_behind_45 rfl rfl ?_
      refine wp_iadd 47 dX3_behind_46 rfl ?_
      refine wp_aload_n 48 dX3_behind_47 rfl rfl ?_
      refine wp_getR 4 75 51 dX3_behind_48 rfl fl_X3_21 kd_71 rfl rfl rfl rfl ?_
      refine wp_iload 53 dX3_behind_51 rfl rfl ?_
      have c6 := H.1; replace H := H.2
      refine wp_iald 54 dX3_behind_53 rfl kd_75 c6 ?_
      refine wp_isub 55 dX3_behind_54 rfl ?_
      have c7 := H.1; replace H := H.2
      refine wp_iald 56 dX3_behind_55 rfl kd_74 c7 ?_
      refine wp_istore 58 dX3_behind_56 rfl (Nat.le_of_ble_eq_true rfl) rfl ?_
      refine wp_aload_n 59 dX3_behind_58 rfl rfl ?_
      refine wp_getR 7 8 62 dX3_behind_59 rfl fl_X3_82 kd_1 rfl rfl rfl rfl ?_
      refine wp_iconst (3 : Int32) 63 dX3_behind_62 kiconst_3 rfl ?_
      refine wp_aload_n 64 dX3_behind_63 rfl rfl ?_
      refine wp_getI 67 dX3_behind_64 rfl fl_X3_24 kd_71 rfl ?_
      refine wp_imul 68 dX3_behind_67 rfl ?_
      refine wp_iload 70 dX3_behind_68 rfl rfl ?_
      refine wp_iadd 71 dX3_behind_70 rfl ?_
      have c8 := H.1; replace H := H.2
      refine wp_iald 72 dX3_behind_71 rfl kd_8 c8 ?_
      refine wp_istore 74 dX3_behind_72 rfl (Nat.le_of_ble_eq_true rfl) rfl ?_
      refine wp_iload 76 dX3_behind_74 rfl rfl ?_
      refine wp_iload 78 dX3_behind_76 rfl rfl ?_
      refine wp_iconst (0 : Int32) 79 dX3_behind_78 kiconst_0 rfl ?_
      refine wp_cN (d - 1) 2 [.int (h 8 ((((3 : Int32) * (h 71 4)) + v6)).toNatClampNeg), .int (0 : Int32)] [.int v4] 82 dX3_behind_79 rfl (lk_X3_85 rfl) (by omega) rfl rfl (Nat.le_of_ble_eq_true rfl) (sp_X7_share (by omega)  ?_)
      refine wp_iload 84 dX3_behind_82 rfl rfl ?_
      refine wp_imul 85 dX3_behind_84 rfl ?_
      refine wp_iadd 86 dX3_behind_85 rfl ?_
      refine wp_istore 88 dX3_behind_86 rfl (Nat.le_of_ble_eq_true rfl) rfl ?_
      refine wp_iload 90 dX3_behind_88 rfl rfl ?_
      refine wp_iload 92 dX3_behind_90 rfl rfl ?_
      refine wp_iconst (1 : Int32) 93 dX3_behind_92 kiconst_1 rfl ?_
      refine wp_cN (d - 1) 2 [.int (h 8 ((((3 : Int32) * (h 71 4)) + v6)).toNatClampNeg), .int (1 : Int32)] [.int v5] 96 dX3_behind_93 rfl (lk_X3_85 rfl) (by omega) rfl rfl (Nat.le_of_ble_eq_true rfl) (sp_X7_share (by omega)  ?_)
      refine wp_iload 98 dX3_behind_96 rfl rfl ?_
      refine wp_imul 99 dX3_behind_98 rfl ?_
      refine wp_iadd 100 dX3_behind_99 rfl ?_
      refine wp_istore 102 dX3_behind_100 rfl (Nat.le_of_ble_eq_true rfl) rfl ?_
      refine wp_iinc (1 : Int32) 105 dX3_behind_102 rfl rfl kiconst_1 (Nat.le_of_ble_eq_true rfl) rfl ?_
      refine wp_goto 19 dX3_behind_105 rfl ?_
      refine wp_drop 7 ?_
      refine wp_drop 8 ?_
      exact H

theorem sg_X3_keep_0 {G : kG} {d : Nat} {Q : Int32 → kM → Prop}  {a1 : Int32} {a2 : Int32} {h : kM} (hd : 1 ≤ d)  (H :
    ((a1 < (h 71 7) →
      ∀ h2 : kM, h2 = kU h 71 7 a1 →
      ∀ h3 : kM, h3 = kU h2 71 8 a2 →
      ∀ h4 : kM, h4 = kU h3 71 9 (h3 71 6) →
      Q 0 h4
    ) ∧ (¬ (a1 < (h 71 7)) →
      ((¬ a1 = (h 71 7) →
        Q 0 h
      ) ∧ (a1 = (h 71 7) →
        (((h 71 8) ≤ a2 →
          Q 0 h
        ) ∧ (¬ ((h 71 8) ≤ a2) →
          ∀ h7 : kM, h7 = kU h 71 7 a1 →
          ∀ h8 : kM, h8 = kU h7 71 8 a2 →
          ∀ h9 : kM, h9 = kU h8 71 9 (h8 71 6) →
          Q 0 h9
        ))
      ))
    ))) : Wp G d m_X3_keep (kEo G d m_X3_keep Q) 0 [.ref 71, .int a1, .int a2] [] h := by
  refine wp_iload_n 1 dX3_keep_0 rfl rfl ?_
  refine wp_aload_n 2 dX3_keep_1 rfl rfl ?_
  refine wp_getI 5 dX3_keep_2 rfl fl_X3_50 kd_71 rfl ?_
  refine wp_icmp_lt 24 8 dX3_keep_5 rfl rfl ⟨fun c1 => ?_, fun c1 => ?_⟩
  · replace H := H.1 c1
    refine wp_aload_n 25 dX3_keep_24 rfl rfl ?_
    refine wp_iload_n 26 dX3_keep_25 rfl rfl ?_
    refine wp_putI 29 dX3_keep_26 rfl fl_X3_50 fin_3_7 kd_71 rfl ?_
    refine wp_nm (fun h2 eh2 => ?_)
    replace H := H h2 eh2
    refine wp_aload_n 30 dX3_keep_29 rfl rfl ?_
    refine wp_iload_n 31 dX3_keep_30 rfl rfl ?_
    refine wp_putI 34 dX3_keep_31 rfl fl_X3_53 fin_3_8 kd_71 rfl ?_
    refine wp_nm (fun h3 eh3 => ?_)
    replace H := H h3 eh3
    refine wp_aload_n 35 dX3_keep_34 rfl rfl ?_
    refine wp_aload_n 36 dX3_keep_35 rfl rfl ?_
    refine wp_getI 39 dX3_keep_36 rfl fl_X3_47 kd_71 rfl ?_
    refine wp_putI 42 dX3_keep_39 rfl fl_X3_56 fin_3_9 kd_71 rfl ?_
    refine wp_nm (fun h4 eh4 => ?_)
    replace H := H h4 eh4
    exact wp_retv dX3_keep_42 rfl H
  · replace H := H.2 c1
    refine wp_iload_n 9 dX3_keep_8 rfl rfl ?_
    refine wp_aload_n 10 dX3_keep_9 rfl rfl ?_
    refine wp_getI 13 dX3_keep_10 rfl fl_X3_50 kd_71 rfl ?_
    refine wp_icmp_ne 42 16 dX3_keep_13 rfl rfl ⟨fun c5 => ?_, fun c5 => ?_⟩
    · replace H := H.1 c5
      exact wp_retv dX3_keep_42 rfl H
    · replace H := H.2 c5
      refine wp_iload_n 17 dX3_keep_16 rfl rfl ?_
      refine wp_aload_n 18 dX3_keep_17 rfl rfl ?_
      refine wp_getI 21 dX3_keep_18 rfl fl_X3_53 kd_71 rfl ?_
      refine wp_icmp_ge 42 24 dX3_keep_21 rfl rfl ⟨fun c6 => ?_, fun c6 => ?_⟩
      · replace H := H.1 c6
        exact wp_retv dX3_keep_42 rfl H
      · replace H := H.2 c6
        refine wp_aload_n 25 dX3_keep_24 rfl rfl ?_
        refine wp_iload_n 26 dX3_keep_25 rfl rfl ?_
        refine wp_putI 29 dX3_keep_26 rfl fl_X3_50 fin_3_7 kd_71 rfl ?_
        refine wp_nm (fun h7 eh7 => ?_)
        replace H := H h7 eh7
        refine wp_aload_n 30 dX3_keep_29 rfl rfl ?_
        refine wp_iload_n 31 dX3_keep_30 rfl rfl ?_
        refine wp_putI 34 dX3_keep_31 rfl fl_X3_53 fin_3_8 kd_71 rfl ?_
        refine wp_nm (fun h8 eh8 => ?_)
        replace H := H h8 eh8
        refine wp_aload_n 35 dX3_keep_34 rfl rfl ?_
        refine wp_aload_n 36 dX3_keep_35 rfl rfl ?_
        refine wp_getI 39 dX3_keep_36 rfl fl_X3_47 kd_71 rfl ?_
        refine wp_putI 42 dX3_keep_39 rfl fl_X3_56 fin_3_9 kd_71 rfl ?_
        refine wp_nm (fun h9 eh9 => ?_)
        replace H := H h9 eh9
        exact wp_retv dX3_keep_42 rfl H

theorem cg_X3_keep {G : kG} {d : Nat} {Q : Int32 → kM → Prop}  {a1 : Int32} {a2 : Int32} {h : kM} (hd : 1 ≤ d)  (H :
    ((a1 < (h 71 7) →
      ∀ h2 : kM, h2 = kU h 71 7 a1 →
      ∀ h3 : kM, h3 = kU h2 71 8 a2 →
      ∀ h4 : kM, h4 = kU h3 71 9 (h3 71 6) →
      Q 0 h4
    ) ∧ (¬ (a1 < (h 71 7)) →
      ((¬ a1 = (h 71 7) →
        Q 0 h
      ) ∧ (a1 = (h 71 7) →
        (((h 71 8) ≤ a2 →
          Q 0 h
        ) ∧ (¬ ((h 71 8) ≤ a2) →
          ∀ h7 : kM, h7 = kU h 71 7 a1 →
          ∀ h8 : kM, h8 = kU h7 71 8 a2 →
          ∀ h9 : kM, h9 = kU h8 71 9 (h8 71 6) →
          Q 0 h9
        ))
      ))
    ))) : Cal G d m_X3_keep [.ref 71, .int a1, .int a2] h Q :=
  Cal.of [.ref 71, .int a1, .int a2] (by decide +kernel) (Nat.le_of_ble_eq_true rfl) rfl (sg_X3_keep_0 hd  H)

theorem sp_X3_behind (hd : 4 ≤ d) {h0 : kM} {p n t : Nat} {s : Nat → Int32} {x : Nat × Nat} {g : Nat → Int32} {ns H f w : Nat} (hS : kSRn (kVw h0 1) g ns H f w) (hp : p < ns) (hn : n ≤ 10) (ht : t < n) (c : kSc h0 h p n s) (sv : kSv s t) (x1 : x.1 < 64) (x2 : x.2 < 3) (k : Q (kPl (kNp (kVw h0 1) p s t x)) h) : Cal G d m_X3_behind [.ref 71, .ref 1, .int (nI t), .int (kPl x)] h Q := by
  have hns := hS.1.1
  obtain ⟨c1, c2, c3, c4, c5, c6⟩ := c
  obtain ⟨y, y1, y2, y3, y4, y5, y6, y7, y8, y9⟩ := (hS.2.2.2.2.2.2.2.1 p hp).xy
  have e1 : h 2 = kVw h0 1 1 := c1 2 (by decide) (by decide) (by decide)
  have e5 : h 5 p = nI (kPort (kVw h0 1) p) := by rw [c1 5 (by decide) (by decide) (by decide)]; exact y8
  have e8 : h 8 = kVw h0 1 7 := c1 8 (by decide) (by decide) (by decide)
  have lp : ∀ (m i : Nat), i + m = 3 → at_X3_behind_19 G d Q (nI t) (kPl x) (kSum (kC (kVw h0 1) p s t 0) (kWn (kVw h0 1) 0 (kVw h0 1 0 13 + nI t)) i) (kSum (kC (kVw h0 1) p s t 1) (kWn (kVw h0 1) 1 (kVw h0 1 0 13 + nI t)) i) (nI i) h := by
    intro m
    induction m with
    | zero =>
      intro i hi
      have hi2 : i = 3 := by omega
      subst hi2
      refine sg_X3_behind_19 hd ⟨fun _ => ?_, fun z => absurd (nI_le (Nat.le_refl 3) (by decide)) z⟩
      rw [c2]
      refine sp_X2_sailed (d := d - 1) (by omega) kSea_is1 (p := p) (q := kPort (kVw h0 1) p) (by omega) y3 e5 x1 x2 ?_
      show Q (kPl (kSai (h 2) _ _ _ x)) h
      rw [e1]
      exact k
    | succ m ih =>
      intro i hi
      have st : ∀ z0 z1, z0 = kC (kVw h0 1) p s t 0 i → z1 = kC (kVw h0 1) p s t 1 i → at_X3_behind_19 G d Q (nI t) (kPl x) (kSum (kC (kVw h0 1) p s t 0) (kWn (kVw h0 1) 0 (kVw h0 1 0 13 + nI t)) i + z0) (kSum (kC (kVw h0 1) p s t 1) (kWn (kVw h0 1) 1 (kVw h0 1 0 13 + nI t)) i + z1) (nI (i + 1)) h := fun z0 z1 q0 q1 => by
        rw [q0, q1]
        exact ih (i + 1) (by omega)
      have v3 : vp_in (nI i) 3 := vp_in_nI (by omega) (by decide)
      refine sg_X3_behind_19 hd ⟨fun z => absurd z (ltn (nI_lt (b := 3) (by omega) (by decide))), fun _ => ⟨v3, ?_⟩⟩
      rw [nI_clamp (by omega), c6 i (by omega), c2, ix3, nI_1]
      refine ⟨fun z => ?_, fun z => ⟨v3, ?_⟩⟩
      · have r := st 0 0 (by unfold kC; rw [if_pos z]) (by unfold kC; rw [if_pos z])
        rw [Int32.add_zero, Int32.add_zero] at r
        exact r
      · obtain ⟨u, hu, eu⟩ := (sv i (by omega)).resolve_left z
        have ei : (10 : Int32) * nI i + nI t - s i = nI (10 * i + (t - u)) := by
          rw [eu]
          show nI 10 * nI i + nI t - nI u = _
          rw [pk_mul, nI_add, pk_sub (by omega), show 10 * i + t - u = 10 * i + (t - u) by omega]
        rw [ei, nI_clamp (n := 10 * i + (t - u)) (by omega), nI_clamp (n := 3 * p + i) (by omega), c5 i (by omega) (t - u) (by omega), e8]
        have ec : ∀ what, kShare (kVw h0 1 7 (3 * p + i)) what * kFo (kVw h0 1) (3 * p + i) (nI (t - u)) = kC (kVw h0 1) p s t what i := fun what => by
          unfold kC
          rw [if_neg z, eu, pk_sub hu]
        exact ⟨vp_in_nI (by omega) (by decide), vp_in_nI (by omega) (by decide), st _ _ (ec 0) (ec 1)⟩
  refine cg_X3_behind hd ⟨vp_in_nI (by omega) (by decide), vp_in_nI (by omega) (by decide), ?_⟩
  rw [nI_clamp (by omega), (c4 t ht).1, (c4 t ht).2]
  exact lp 3 0 (by omega)
/-- the best so far, in the class -/
def kBs (n : Nat) (h : kM) (b : Nat × Nat × Nat) : Prop := h 71 7 = nI b.1 ∧ h 71 8 = nI b.2.1 ∧ (b.1 ≤ n → h 71 9 = nI (kF1 b.1 b.2.2))
theorem sp_X3_keep (hd : 1 ≤ d) {t l r n : Nat} {b : Nat × Nat × Nat} (ht : t ≤ 10) (hl : l ≤ 10) (hb1 : b.1 ≤ 11) (hb2 : b.2.1 ≤ 10) (hB : kBs n h b) (h6 : h 71 6 = nI (kF1 t r)) (htn : t ≤ n) (o : kOr n b t r) (k1 : ∀ h1, (∀ a, a ≠ 71 → h1 a = h a) → (∀ s, s < 7 → h1 71 s = h 71 s) → kBs n h1 (t, l, r) → kPo (fun T L R => T = t ∧ L = l ∧ R = r) b (t, l, r) → Q 0 h1) (k2 : kPo (fun T L R => T = t ∧ L = l ∧ R = r) b b → Q 0 h) : Cal G d m_X3_keep [.ref 71, .int (nI t), .int (nI l)] h Q := by
  obtain ⟨b1, b2, b3⟩ := hB
  have up : kLt t l r b.1 b.2.1 b.2.2 → ∀ h2, h2 = kU h 71 7 (nI t) → ∀ h3, h3 = kU h2 71 8 (nI l) → ∀ h4, h4 = kU h3 71 9 (h3 71 6) → Q 0 h4 := fun lt h2 e2 h3 e3 h4 e4 => by
    have c4 : h4 71 = upd (upd (upd (h 71) 7 (nI t)) 8 (nI l)) 9 (h3 71 6) := by rw [e4, kU_eq, e3, kU_eq, e2, kU_eq]
    have c6 : h3 71 6 = nI (kF1 t r) := by rw [e3, kU_eq, pk_un (by decide), e2, kU_eq, pk_un (by decide), h6]
    refine k1 h4 (fun a ha => by rw [e4, kU_ne ha, e3, kU_ne ha, e2, kU_ne ha]) (fun s hs => by rw [c4, pk_un (by omega), pk_un (by omega), pk_un (by omega)]) ⟨?_, ?_, ?_⟩ ⟨Or.inr ⟨rfl, rfl, rfl⟩, fun T L R q => ?_, ?_⟩
    · rw [c4, pk_un (by decide), pk_un (by decide), pk_us]
    · rw [c4, pk_un (by decide), pk_us]
    · intro _
      rw [c4, pk_us, c6]
    · rw [q.1, q.2.1, q.2.2]
      exact kLt_irr _ _ _
    · unfold kLt at lt ⊢
      show ¬ (b.1 < t ∨ b.1 = t ∧ (b.2.1 < l ∨ b.2.1 = l ∧ b.2.2 < r))
      omega
  have no : ¬ kLt t l r b.1 b.2.1 b.2.2 → Q 0 h := fun nl => k2 (kPo.no (fun T L R q => by rw [q.1, q.2.1, q.2.2]; exact nl))
  have oo : t = b.1 → b.2.2 < r := fun e => by
    have q := o (by omega) (by omega)
    rw [← e, Nat.sub_self, Nat.pow_zero, Nat.mul_one] at q
    exact q
  refine cg_X3_keep hd ?_
  rw [b1, b2]
  refine ⟨fun z => up (Or.inl ((nI_ltI (by omega) (by omega)).mp z)), fun z => ⟨fun z2 => no ?_, fun z2 => ⟨fun z3 => no ?_, fun z3 => up ?_⟩⟩⟩
  · have q1 : ¬ t < b.1 := fun e => z ((nI_ltI (by omega) (by omega)).mpr e)
    have q2 : ¬ t = b.1 := fun e => z2 (by rw [e])
    unfold kLt
    omega
  · have q1 : ¬ t < b.1 := fun e => z ((nI_ltI (by omega) (by omega)).mpr e)
    have q2 : t = b.1 := (nI_eq (by omega) (by omega)).mp z2
    have q3 : b.2.1 ≤ l := (nI_leI (by omega) (by omega)).mp z3
    have q4 := oo q2
    unfold kLt
    omega
  · have q2 : t = b.1 := (nI_eq (by omega) (by omega)).mp z2
    have q3 : ¬ b.2.1 ≤ l := fun e => z3 ((nI_leI (by omega) (by omega)).mpr e)
    unfold kLt
    omega
end Ways

