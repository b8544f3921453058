/-! who -/
section Who
variable {G : kG} {d : Nat} {Q : Int32 → kM → Prop} {h : kM}
/-- whether the first n ships lie as told -/
def kLy (X : Nat → Int32) (W : kM) : Nat → Int32
  | 0 => 1
  | n + 1 => if kLy X W n = 0 then 0 else if X n = nI (kXy (W 3 n)).1 then 1 else 0
theorem kLy_z {X : Nat → Int32} {W : kM} {n : Nat} (hz : kLy X W n = 0) : kLy X W (n + 1) = 0 := if_pos hz
theorem kLy_y {X : Nat → Int32} {W : kM} {n : Nat} (hz : ¬ kLy X W n = 0) (e : X n = nI (kXy (W 3 n)).1) : kLy X W (n + 1) = 1 := by
  show (if kLy X W n = 0 then 0 else if X n = nI (kXy (W 3 n)).1 then 1 else 0) = 1
  rw [if_neg hz, if_pos e]
theorem kLy_x {X : Nat → Int32} {W : kM} {n : Nat} (e : ¬ X n = nI (kXy (W 3 n)).1) : kLy X W (n + 1) = 0 := by
  show (if kLy X W n = 0 then 0 else if X n = nI (kXy (W 3 n)).1 then 1 else 0) = 0
  by_cases hz : kLy X W n = 0
  · rw [if_pos hz]
  · rw [if_neg hz, if_neg e]
theorem kLy_m {X : Nat → Int32} {W : kM} {i : Nat} (hz : kLy X W i = 0) : ∀ m, kLy X W (i + m) = 0
  | 0 => hz
  | m + 1 => kLy_z (kLy_m hz m)
theorem kLy_01 {X : Nat → Int32} {W : kM} : ∀ n, kLy X W n = 0 ∨ kLy X W n = 1
  | 0 => Or.inr rfl
  | n + 1 => by
    by_cases hz : kLy X W n = 0
    · exact Or.inl (kLy_z hz)
    · by_cases e : X n = nI (kXy (W 3 n)).1
      · exact Or.inr (kLy_y hz e)
      · exact Or.inl (kLy_x e)
theorem kLy_cong {X Y : Nat → Int32} {W : kM} : ∀ n, (∀ p, p < n → ∀ c, c < 64 → (X p = nI c ↔ Y p = nI c)) → kLy X W n = kLy Y W n
  | 0, _ => rfl
  | n + 1, e => by
    have ih := kLy_cong (W := W) n (fun p hp => e p (by omega))
    have e1 := e n (by omega) (kXy (W 3 n)).1 (Nat.mod_lt _ (by decide))
    show (if kLy X W n = 0 then 0 else if X n = nI (kXy (W 3 n)).1 then 1 else 0) = (if kLy Y W n = 0 then 0 else if Y n = nI (kXy (W 3 n)).1 then 1 else 0)
    rw [ih]
    by_cases c : X n = nI (kXy (W 3 n)).1
    · rw [if_pos c, if_pos (e1.mp c)]
    · rw [if_neg c, if_neg (fun z => c (e1.mpr z))]
def at_X0_lieAsTold_2 (G : kG) (d : Nat) (Q : Int32 → kM → Prop) (q : Nat) (c : Nat) (v2 : Int32) (v3 : Int32) (h : kM) : Prop := Wp G d m_X0_lieAsTold (kEo G d m_X0_lieAsTold Q) 2 [.ref q, .ref c, .int v2, .int v3] [] h
theorem sg_X0_lieAsTold_0 {G : kG} {d : Nat} {Q : Int32 → kM → Prop} {q : Nat} {c : Nat} {a1 : Int32} {h : kM} (hd : 2 ≤ d) (k_q : kd q = (1, 5)) (k_c : kd c = (1, 24)) (H :
    at_X0_lieAsTold_2 G d Q q c a1 (0 : Int32) h) : Wp G d m_X0_lieAsTold (kEo G d m_X0_lieAsTold Q) 0 [.ref q, .ref c, .int a1, .null] [] h := by
  refine wp_iconst (0 : Int32) 1 dX0_lieAsTold_0 kiconst_0 rfl ?_
  refine wp_istore_n 2 dX0_lieAsTold_1 rfl (Nat.le_of_ble_eq_true rfl) rfl ?_
  exact H

theorem cg_X0_lieAsTold {G : kG} {d : Nat} {Q : Int32 → kM → Prop} {q : Nat} {c : Nat} {a1 : Int32} {h : kM} (hd : 2 ≤ d) (k_q : kd q = (1, 5)) (k_c : kd c = (1, 24)) (H :
    at_X0_lieAsTold_2 G d Q q c a1 (0 : Int32) h) : Cal G d m_X0_lieAsTold [.ref q, .ref c, .int a1] h Q :=
  Cal.of [.ref q, .ref c, .int a1, .null] (by decide +kernel) (Nat.le_of_ble_eq_true rfl) rfl (sg_X0_lieAsTold_0 hd k_q k_c H)

theorem sg_X0_lieAsTold_2 {G : kG} {d : Nat} {Q : Int32 → kM → Prop} {q : Nat} {c : Nat} {v2 : Int32} {v3 : Int32} {h : kM} (hd : 2 ≤ d) (k_q : kd q = (1, 5)) (k_c : kd c = (1, 24)) (H :
    ((v2 ≤ v3 →
      Q (1 : Int32) h
    ) ∧ (¬ (v2 ≤ v3) →
      (vp_in v3 5) ∧
      (vp_in v3 24) ∧
      (((iR (h q (v3).toNatClampNeg) 64) = (h c (v3).toNatClampNeg) →
        at_X0_lieAsTold_2 G d Q q c v2 (v3 + (1 : Int32)) h
      ) ∧ (¬ ((iR (h q (v3).toNatClampNeg) 64) = (h c (v3).toNatClampNeg)) →
        Q (0 : Int32) h
      ))
    ))) : at_X0_lieAsTold_2 G d Q q c v2 v3 h := by
  show Wp G d m_X0_lieAsTold (kEo G d m_X0_lieAsTold Q) 2 [.ref q, .ref c, .int v2, .int v3] [] h
  refine wp_iload_n 3 dX0_lieAsTold_2 rfl rfl ?_
  refine wp_iload_n 4 dX0_lieAsTold_3 rfl rfl ?_
  refine wp_icmp_ge 27 7 dX0_lieAsTold_4 rfl rfl ⟨fun c1 => ?_, fun c1 => ?_⟩
  · replace H := H.1 c1
    refine wp_iconst (1 : Int32) 28 dX0_lieAsTold_27 kiconst_1 rfl ?_
    exact wp_retz dX0_lieAsTold_28 rfl (Or.inr rfl) H
  · replace H := H.2 c1
    refine wp_aload_n 8 dX0_lieAsTold_7 rfl rfl ?_
    refine wp_iload_n 9 dX0_lieAsTold_8 rfl rfl ?_
    have c2 := H.1; replace H := H.2
    refine wp_iald 10 dX0_lieAsTold_9 rfl k_q c2 ?_
    refine wp_cN (d - 1) 1 [.int (h q (v3).toNatClampNeg)] [] 13 dX0_lieAsTold_10 rfl (lk_X0_117 rfl) (by omega) rfl rfl (Nat.le_of_ble_eq_true rfl) (sp_X7_cellOf (by omega)  ?_)
    refine wp_aload_n 14 dX0_lieAsTold_13 rfl rfl ?_
    refine wp_iload_n 15 dX0_lieAsTold_14 rfl rfl ?_
    have c3 := H.1; replace H := H.2
    refine wp_iald 16 dX0_lieAsTold_15 rfl k_c c3 ?_
    refine wp_icmp_eq 21 19 dX0_lieAsTold_16 rfl rfl ⟨fun c4 => ?_, fun c4 => ?_⟩
    · replace H := H.1 c4
      refine wp_iinc (1 : Int32) 24 dX0_lieAsTold_21 rfl rfl kiconst_1 (Nat.le_of_ble_eq_true rfl) rfl ?_
      refine wp_goto 2 dX0_lieAsTold_24 rfl ?_
      exact H
    · replace H := H.2 c4
      refine wp_iconst (0 : Int32) 20 dX0_lieAsTold_19 kiconst_0 rfl ?_
      exact wp_retz dX0_lieAsTold_20 rfl (Or.inl rfl) H

theorem sp_X0_lieAsTold (hd : 2 ≤ d) {q c n : Nat} (kq : kd q = (1, 5)) (kc : kd c = (1, 24)) {W : kM} (hn : n ≤ 5) (hW : ∀ p, p < n → ∃ x : Nat × Nat, x.1 < 64 ∧ x.2 < 3 ∧ h q p = kPl x ∧ kXy (W 3 p) = x) (k : Q (kLy (h c) W n) h) : Cal G d m_X0_lieAsTold [.ref q, .ref c, .int (nI n)] h Q := by
  have lp : ∀ (m i : Nat), i + m = n → kLy (h c) W i = 1 → at_X0_lieAsTold_2 G d Q q c (nI n) (nI i) h := by
    intro m
    induction m with
    | zero =>
      intro i hi hy
      have hi2 : i = n := by omega
      subst hi2
      rw [hy] at k
      exact sg_X0_lieAsTold_2 hd kq kc ⟨fun _ => k, fun z => absurd (nI_le (Nat.le_refl _) (by omega)) z⟩
    | succ m ih =>
      intro i hi hy
      obtain ⟨x, x1, x2, x3, x4⟩ := hW i (by omega)
      have y0 : ¬ kLy (h c) W i = 0 := by rw [hy]; decide
      refine sg_X0_lieAsTold_2 hd kq kc ⟨fun z => absurd z (ltn (nI_lt (by omega) (by omega))), fun _ => ⟨vp_in_nI (by omega) (by decide), vp_in_nI (by omega) (by decide), ?_⟩⟩
      rw [nI_clamp (by omega), x3, kPl_c x1 x2, nI_1]
      refine ⟨fun z => ih (i + 1) (by omega) (kLy_y y0 (by rw [x4]; exact z.symm)), fun z => ?_⟩
      have n0 := kLy_m (kLy_x (X := h c) (W := W) (n := i) (by rw [x4]; exact fun e => z e.symm)) (n - (i + 1))
      rw [show i + 1 + (n - (i + 1)) = n by omega] at n0
      rw [n0] at k
      exact k
  exact cg_X0_lieAsTold hd kq kc (lp n 0 (by omega) rfl)
/-- the knot k being loosed ahead of the hour t: whether all lie as told -/
abbrev kMq (v : kM) (k t : Nat) : Prop := v 8 k = -1 ∧ kDay (v 0 13 + nI t) ∧ ¬ nI (kSh v (k / 3) t).2 = 1
def kRt (X : Nat → Int32) (v : kM) (N n k t : Nat) : Int32 := if kMq v k t then kLy X (kHrN (kUp v t k) (N - t)) n else 0
def kRw (X : Nat → Int32) (v : kM) (N n k : Nat) : Int32 := kSum (kRt X v N n k) 0 N
theorem kRt_cong {X Y : Nat → Int32} {v : kM} {N n k t : Nat} (e : ∀ p, p < n → ∀ c, c < 64 → (X p = nI c ↔ Y p = nI c)) : kRt X v N n k t = kRt Y v N n k t := by
  unfold kRt
  rw [kLy_cong n e]
theorem kRw_cong {X Y : Nat → Int32} {v : kM} {N n k : Nat} (e : ∀ p, p < n → ∀ c, c < 64 → (X p = nI c ↔ Y p = nI c)) : kRw X v N n k = kRw Y v N n k :=
  kSum_congr N (fun _ _ => kRt_cong e)
theorem kSum_0 {f : Nat → Int32} : ∀ n, (∀ i, i < n → f i = 0) → kSum f 0 n = 0
  | 0, _ => rfl
  | n + 1, e => by
    show kSum f 0 n + f n = 0
    rw [kSum_0 n (fun i hi => e i (by omega)), e n (by omega), Int32.add_zero]
theorem kRw_n {X : Nat → Int32} {v : kM} {N n k : Nat} (ht : ¬ v 8 k = -1) : kRw X v N n k = 0 :=
  kSum_0 N (fun t _ => if_neg (fun m : kMq v k t => ht m.1))
/-- rows, how many knots, the first -/
def kWf (X : Nat → Int32) (v : kM) (N n : Nat) : Nat → Int32 × Nat × Int32
  | 0 => (kLy X (kHrN v N) n, 0, -1)
  | k + 1 => if kRw X v N n k ≤ 0 then ((kWf X v N n k).1 + kRw X v N n k, (kWf X v N n k).2.1, (kWf X v N n k).2.2) else ((kWf X v N n k).1 + kRw X v N n k, (kWf X v N n k).2.1 + 1, if (kWf X v N n k).2.1 = 0 then nI k else (kWf X v N n k).2.2)
theorem kWf_l {X : Nat → Int32} {v : kM} {N n k : Nat} (hl : kRw X v N n k ≤ 0) : kWf X v N n (k + 1) = ((kWf X v N n k).1 + kRw X v N n k, (kWf X v N n k).2.1, (kWf X v N n k).2.2) := if_pos hl
theorem kWf_g {X : Nat → Int32} {v : kM} {N n k : Nat} (hl : ¬ kRw X v N n k ≤ 0) : kWf X v N n (k + 1) = ((kWf X v N n k).1 + kRw X v N n k, (kWf X v N n k).2.1 + 1, if (kWf X v N n k).2.1 = 0 then nI k else (kWf X v N n k).2.2) := if_neg hl
theorem kWf_cong {X Y : Nat → Int32} {v : kM} {N n : Nat} (e : ∀ p, p < n → ∀ c, c < 64 → (X p = nI c ↔ Y p = nI c)) : ∀ k, kWf X v N n k = kWf Y v N n k
  | 0 => by
    show (kLy X (kHrN v N) n, 0, -1) = (kLy Y (kHrN v N) n, 0, -1)
    rw [kLy_cong n e]
  | k + 1 => by
    have ih := kWf_cong (v := v) (N := N) e k
    have er := kRw_cong (v := v) (N := N) (k := k) e
    by_cases c : kRw X v N n k ≤ 0
    · rw [kWf_l c, kWf_l (by rw [← er]; exact c), ih, er]
    · rw [kWf_g c, kWf_g (by rw [← er]; exact c), ih, er]
theorem kWf_f {X : Nat → Int32} {v : kM} {N n : Nat} : ∀ k, (kWf X v N n k).2.1 ≤ k ∧ ((kWf X v N n k).2.1 = 0 ∨ ∃ j, j < k ∧ (kWf X v N n k).2.2 = nI j)
  | 0 => ⟨Nat.le_refl 0, Or.inl rfl⟩
  | k + 1 => by
    obtain ⟨h1, h2⟩ := kWf_f (X := X) (v := v) (N := N) (n := n) k
    by_cases c : kRw X v N n k ≤ 0
    · rw [kWf_l c]
      refine ⟨by show (kWf X v N n k).2.1 ≤ k + 1; omega, ?_⟩
      rcases h2 with e | ⟨j, hj, e⟩
      · exact Or.inl e
      · exact Or.inr ⟨j, by omega, e⟩
    · rw [kWf_g c]
      refine ⟨by show (kWf X v N n k).2.1 + 1 ≤ k + 1; omega, Or.inr ?_⟩
      show ∃ j, j < k + 1 ∧ (if (kWf X v N n k).2.1 = 0 then nI k else (kWf X v N n k).2.2) = nI j
      rcases h2 with e | ⟨j, hj, e⟩
      · exact ⟨k, by omega, if_pos e⟩
      · by_cases z : (kWf X v N n k).2.1 = 0
        · exact ⟨k, by omega, if_pos z⟩
        · exact ⟨j, by omega, by rw [if_neg z, e]⟩
def at_X0_rowsOf_12 (G : kG) (d : Nat) (Q : Int32 → kM → Prop) (c : Nat) (v2 : Int32) (v4 : Int32) (v5 : Int32) (h : kM) : Prop := Wp G d m_X0_rowsOf (kEo G d m_X0_rowsOf Q) 12 [.ref 40, .ref 18, .int v2, .ref c, .int v4, .int v5] [] h
theorem sg_X0_rowsOf_0 {G : kG} {d : Nat} {Q : Int32 → kM → Prop} {c : Nat} {a1 : Int32} {h : kM} (hd : 6 ≤ d) (k_c : kd c = (1, 24)) (H :
    Cal G (d - 1) m_X0_foresee [.ref 40, .ref 18, .int a1] h (fun x1 h2 =>
      at_X0_rowsOf_12 G d Q c a1 (0 : Int32) (0 : Int32) h2
    )) : Wp G d m_X0_rowsOf (kEo G d m_X0_rowsOf Q) 0 [.ref 40, .ref 18, .int a1, .ref c, .null, .null] [] h := by
  refine wp_aload_n 1 dX0_rowsOf_0 rfl rfl ?_
  refine wp_aload_n 2 dX0_rowsOf_1 rfl rfl ?_
  refine wp_iload_n 3 dX0_rowsOf_2 rfl rfl ?_
  refine wp_cV (d - 1) 2 [.ref 18, .int a1] [] 6 dX0_rowsOf_3 rfl (lk_X0_65 rfl) (by omega) kd_40 rfl rfl rfl (Nat.le_of_ble_eq_true rfl) (H.mono (fun x1 h2 H => ?_))
  refine wp_iconst (0 : Int32) 7 dX0_rowsOf_6 kiconst_0 rfl ?_
  refine wp_istore 9 dX0_rowsOf_7 rfl (Nat.le_of_ble_eq_true rfl) rfl ?_
  refine wp_iconst (0 : Int32) 10 dX0_rowsOf_9 kiconst_0 rfl ?_
  refine wp_istore 12 dX0_rowsOf_10 rfl (Nat.le_of_ble_eq_true rfl) rfl ?_
  exact H

theorem cg_X0_rowsOf {G : kG} {d : Nat} {Q : Int32 → kM → Prop} {c : Nat} {a1 : Int32} {h : kM} (hd : 6 ≤ d) (k_c : kd c = (1, 24)) (H :
    Cal G (d - 1) m_X0_foresee [.ref 40, .ref 18, .int a1] h (fun x1 h2 =>
      at_X0_rowsOf_12 G d Q c a1 (0 : Int32) (0 : Int32) h2
    )) : Cal G d m_X0_rowsOf [.ref 40, .ref 18, .int a1, .ref c] h Q :=
  Cal.of [.ref 40, .ref 18, .int a1, .ref c, .null, .null] (by decide +kernel) (Nat.le_of_ble_eq_true rfl) rfl (sg_X0_rowsOf_0 hd k_c H)

theorem sg_X0_rowsOf_12 {G : kG} {d : Nat} {Q : Int32 → kM → Prop} {c : Nat} {v2 : Int32} {v4 : Int32} {v5 : Int32} {h : kM} (hd : 6 ≤ d) (k_c : kd c = (1, 24)) (H :
    (((h 40 5) ≤ v5 →
      Q v4 h
    ) ∧ (¬ ((h 40 5) ≤ v5) →
      (vp_in v5 25) ∧
      ∀ q3 : Nat, q3 = 45 + (v5).toNatClampNeg → kd q3 = (1, 5) →
      (vp_in (v2 / (3 : Int32)) 5) ∧
      (vp_in v2 15) ∧
      (((kb (h (18 + 8) (v2).toNatClampNeg = -1 ∧ kDay ((h 18 13) + v5) ∧ ¬ (h q3 ((v2 / (3 : Int32))).toNatClampNeg) / 64 = 1)) = 0 →
        at_X0_rowsOf_12 G d Q c v2 v4 (v5 + (1 : Int32)) h
      ) ∧ (¬ ((kb (h (18 + 8) (v2).toNatClampNeg = -1 ∧ kDay ((h 18 13) + v5) ∧ ¬ (h q3 ((v2 / (3 : Int32))).toNatClampNeg) / 64 = 1)) = 0) →
        Cal G (d - 1) m_X0_sailOn [.ref 40, .ref 18, .int v2, .int v5] h (fun x7 h8 =>
          Cal G (d - 1) m_X0_lieAsTold [.ref 70, .ref c, .int (h8 18 12)] h8 (fun x9 h10 =>
            ((x9 = 0 →
              at_X0_rowsOf_12 G d Q c v2 (v4 + (0 : Int32)) (v5 + (1 : Int32)) h10
            ) ∧ (¬ (x9 = 0) →
              at_X0_rowsOf_12 G d Q c v2 (v4 + (1 : Int32)) (v5 + (1 : Int32)) h10
            ))
          )
        )
      ))
    ))) : at_X0_rowsOf_12 G d Q c v2 v4 v5 h := by
  show Wp G d m_X0_rowsOf (kEo G d m_X0_rowsOf Q) 12 [.ref 40, .ref 18, .int v2, .ref c, .int v4, .int v5] [] h
  refine wp_iload 14 dX0_rowsOf_12 rfl rfl ?_
  refine wp_aload_n 15 dX0_rowsOf_14 rfl rfl ?_
  refine wp_getI 18 dX0_rowsOf_15 rfl fl_X0_37 kd_40 rfl ?_
  refine wp_icmp_ge 86 21 dX0_rowsOf_18 rfl rfl ⟨fun c1 => ?_, fun c1 => ?_⟩
  · replace H := H.1 c1
    refine wp_iload 88 dX0_rowsOf_86 rfl rfl ?_
    exact wp_reti dX0_rowsOf_88 rfl H
  · replace H := H.2 c1
    refine wp_aload_n 22 dX0_rowsOf_21 rfl rfl ?_
    refine wp_iload_n 23 dX0_rowsOf_22 rfl rfl ?_
    refine wp_aload_n 24 dX0_rowsOf_23 rfl rfl ?_
    refine wp_getI 27 dX0_rowsOf_24 rfl fl_X0_52 kd_18 rfl ?_
    refine wp_iload 29 dX0_rowsOf_27 rfl rfl ?_
    refine wp_iadd 30 dX0_rowsOf_29 rfl ?_
    refine wp_aload_n 31 dX0_rowsOf_30 rfl rfl ?_
    refine wp_getR 4 44 34 dX0_rowsOf_31 rfl fl_X0_23 kd_40 rfl rfl rfl rfl ?_
    refine wp_iload 36 dX0_rowsOf_34 rfl rfl ?_
    have c2 := H.1; replace H := H.2
    refine wp_course 37 dX0_rowsOf_36 rfl c2 (fun q3 eq3 k_q3 => ?_)
    replace H := H q3 eq3 k_q3
    refine wp_iload_n 38 dX0_rowsOf_37 rfl rfl ?_
    refine wp_iconst (3 : Int32) 39 dX0_rowsOf_38 kiconst_3 rfl ?_
    refine wp_idiv 40 dX0_rowsOf_39 (by decide) rfl ?_
    have c4 := H.1; replace H := H.2
    refine wp_iald 41 dX0_rowsOf_40 rfl k_q3 c4 ?_
    have c5 := H.1; replace H := H.2
    refine wp_cV (d - 1) 3 [.int v2, .int ((h 18 13) + v5), .int (h q3 ((v2 / (3 : Int32))).toNatClampNeg)] [] 44 dX0_rowsOf_41 rfl (lk_X0_58 rfl) (by omega) kd_18 rfl rfl rfl (Nat.le_of_ble_eq_true rfl) (sp_X2_mayBeLoosed (by omega) kSea_is18 c5 ?_)
    refine wp_if_eq 80 47 dX0_rowsOf_44 rfl rfl ⟨fun c6 => ?_, fun c6 => ?_⟩
    · replace H := H.1 c6
      refine wp_iinc (1 : Int32) 83 dX0_rowsOf_80 rfl rfl kiconst_1 (Nat.le_of_ble_eq_true rfl) rfl ?_
      refine wp_goto 12 dX0_rowsOf_83 rfl ?_
      exact H
    · replace H := H.2 c6
      refine wp_aload_n 48 dX0_rowsOf_47 rfl rfl ?_
      refine wp_aload_n 49 dX0_rowsOf_48 rfl rfl ?_
      refine wp_iload_n 50 dX0_rowsOf_49 rfl rfl ?_
      refine wp_iload 52 dX0_rowsOf_50 rfl rfl ?_
      refine wp_cV (d - 1) 3 [.ref 18, .int v2, .int v5] [] 55 dX0_rowsOf_52 rfl (lk_X0_68 rfl) (by omega) kd_40 rfl rfl rfl (Nat.le_of_ble_eq_true rfl) (H.mono (fun x7 h8 H => ?_))
      refine wp_iload 57 dX0_rowsOf_55 rfl rfl ?_
      refine wp_aload_n 58 dX0_rowsOf_57 rfl rfl ?_
      refine wp_getR 30 70 61 dX0_rowsOf_58 rfl fl_X0_26 kd_40 rfl rfl rfl rfl ?_
      refine wp_aload_n 62 dX0_rowsOf_61 rfl rfl ?_
      refine wp_aload_n 63 dX0_rowsOf_62 rfl rfl ?_
      refine wp_getI 66 dX0_rowsOf_63 rfl fl_X0_40 kd_18 rfl ?_
      refine wp_cS (d - 1) 3 [.ref 70, .ref c, .int (h8 18 12)] [.int v4] 69 dX0_rowsOf_66 rfl (lk_X0_78 rfl) (by omega) rfl rfl (Nat.le_of_ble_eq_true rfl) (H.mono (fun x9 h10 H => ?_))
      refine wp_if_eq 76 72 dX0_rowsOf_69 rfl rfl ⟨fun c11 => ?_, fun c11 => ?_⟩
      · replace H := H.1 c11
        refine wp_iconst (0 : Int32) 77 dX0_rowsOf_76 kiconst_0 rfl ?_
        refine wp_iadd 78 dX0_rowsOf_77 rfl ?_
        refine wp_istore 80 dX0_rowsOf_78 rfl (Nat.le_of_ble_eq_true rfl) rfl ?_
        refine wp_iinc (1 : Int32) 83 dX0_rowsOf_80 rfl rfl kiconst_1 (Nat.le_of_ble_eq_true rfl) rfl ?_
        refine wp_goto 12 dX0_rowsOf_83 rfl ?_
        exact H
      · replace H := H.2 c11
        refine wp_iconst (1 : Int32) 73 dX0_rowsOf_72 kiconst_1 rfl ?_
        refine wp_goto 77 dX0_rowsOf_73 rfl ?_
        refine wp_iadd 78 dX0_rowsOf_77 rfl ?_
        refine wp_istore 80 dX0_rowsOf_78 rfl (Nat.le_of_ble_eq_true rfl) rfl ?_
        refine wp_iinc (1 : Int32) 83 dX0_rowsOf_80 rfl rfl kiconst_1 (Nat.le_of_ble_eq_true rfl) rfl ?_
        refine wp_goto 12 dX0_rowsOf_83 rfl ?_
        exact H

theorem sp_X0_rowsOf (hd : 6 ≤ d) {N n k c : Nat} {h0 : kM} {g : Nat → Int32} {H f w : Nat} (hS : kSRn (kVw h0 18) g n H f w) (hN : N ≤ 24) (hH : H ≤ 9999) (hk : k < 3 * n) (ht : kVw h0 18 8 k = -1) (kc : kd c = (1, 24)) (hc : 70 < c) (L : kLk 18 N n N N 0 h0 h) (kk : ∀ h1, kLk 18 N n N N 0 h0 h1 → h1 40 = h 40 → Q (kRw (h0 c) (kVw h0 18) N n k) h1) : Cal G d m_X0_rowsOf [.ref 40, .ref 18, .int (nI k), .ref c] h Q := by
  have hn := hS.1.1
  have ev := L.1.eq kSea_is18
  have e3 : nI k / 3 = nI (k / 3) := pk_div (by omega) (by decide) (by decide)
  have lp : ∀ (m t : Nat) (h1 : kM), t + m = N → kLk 18 N n N N 0 h0 h1 → h1 40 = h 40 → (∀ t, t < N → h1 43 t = kFo (kVw h0 18) k (nI t)) → at_X0_rowsOf_12 G d Q c (nI k) (kSum (kRt (h0 c) (kVw h0 18) N n k) 0 t) (nI t) h1 := by
    intro m
    induction m with
    | zero =>
      intro t h1 htN L1 e40 F1
      have ht2 : t = N := by omega
      subst ht2
      exact sg_X0_rowsOf_12 hd kc ⟨fun _ => kk h1 L1 e40, fun z => absurd (by rw [L1.2.1]; exact nI_le (Nat.le_refl _) (by omega)) z⟩
    | succ m ih =>
      intro t h1 htN L1 e40 F1
      have l := kSh_pl hS (p := k / 3) (by omega) (i := t) (by omega)
      refine sg_X0_rowsOf_12 hd kc ⟨fun z => absurd z (by rw [L1.2.1]; exact ltn (nI_lt (by omega) (by omega))), fun _ => ⟨vp_in_nI (by omega) (by decide), fun q3 e q3k => ?_⟩⟩
      rw [nI_clamp (by omega)] at e
      subst e
      rw [e3, nI_clamp (n := k) (by omega), nI_clamp (n := k / 3) (by omega), L1.2.2.2.1 t (by omega) (k / 3) (by omega), kPl_st l.2.1 l.2.2, L1.1 (18 + 8) (by decide) (by decide) (by decide), L1.1 18 (by decide) (by decide) (by decide), nI_1]
      refine ⟨vp_in_nI (by omega) (by decide), vp_in_nI (by omega) (by decide), fun z => ?_, fun z => ?_⟩
      · have nm : ¬ kMq (kVw h0 18) k t := kb_0.mp z
        have r := ih (t + 1) h1 (by omega) L1 e40 F1
        have s1 : kSum (kRt (h0 c) (kVw h0 18) N n k) 0 (t + 1) = kSum (kRt (h0 c) (kVw h0 18) N n k) 0 t := by
          show kSum (kRt (h0 c) (kVw h0 18) N n k) 0 t + kRt (h0 c) (kVw h0 18) N n k t = _
          rw [show kRt (h0 c) (kVw h0 18) N n k t = 0 from if_neg nm, Int32.add_zero]
        rw [s1] at r
        exact r
      · have hm : kMq (kVw h0 18) k t := kb_n0.mp z
        refine sp_X0_sailOn (d := d - 1) (i := t) (by omega) kSea_is18 hS hN hH hk ht (by omega) L1 F1 (fun h4 o4 P4 => ?_)
        have L4 : kLk 18 N n N N 0 h0 h4 := L1.keep kSea_is18 (Or.inr ⟨hN, rfl⟩) (fun a _ _ y _ _ => o4 a y) (by rw [o4 40 (by decide)])
        have b12 : h4 18 12 = nI n := by rw [L4.1 18 (by decide) (by decide) (by decide)]; exact hS.1.2.1
        obtain ⟨gU, hU⟩ := hS.up (i := t) (k := k) (by omega) hk
        rw [b12]
        refine sp_X0_lieAsTold (d := d - 1) (by omega) kd_70 kc (W := kHrN (kUp (kVw h0 18) t k) (N - t)) hn (fun p hp => ?_) ?_
        · have lu := kSh_pl hU hp (i := N - t) (by omega)
          exact ⟨kSh (kUp (kVw h0 18) t k) p (N - t), lu.2.1, lu.2.2, P4 p hp, rfl⟩
        · have hcc : h4 c = h0 c := L4.1 c (by omega) (by omega) (by omega)
          rw [hcc]
          have er : kRt (h0 c) (kVw h0 18) N n k t = kLy (h0 c) (kHrN (kUp (kVw h0 18) t k) (N - t)) n := if_pos hm
          have r : ∀ y, y = kRt (h0 c) (kVw h0 18) N n k t → at_X0_rowsOf_12 G d Q c (nI k) (kSum (kRt (h0 c) (kVw h0 18) N n k) 0 t + y) (nI (t + 1)) h4 := fun y hy => by
            rw [hy]
            exact ih (t + 1) h4 (by omega) L4 (by rw [o4 40 (by decide), e40]) (fun s hs => by rw [o4 43 (by decide)]; exact F1 s hs)
          refine ⟨fun z2 => r 0 (by rw [er, z2]), fun z2 => r 1 ?_⟩
          rw [er]
          exact ((kLy_01 n).resolve_left z2).symm
  refine cg_X0_rowsOf hd kc (sp_X0_foresee (d := d - 1) (by omega) kSea_is18 hN L.2.1 (by omega) (hS.ok.eq ev).2.1 (fun h2 o2 F2 => ?_))
  exact lp N 0 h2 (by omega) (L.keep kSea_is18 (Or.inr ⟨hN, rfl⟩) (fun a _ y _ z u => o2 a y z u) (by rw [o2 40 (by decide) (by decide) (by decide)])) (o2 40 (by decide) (by decide) (by decide)) (fun t ht2 => by rw [F2 t ht2, kFo_e ev])
def at_X0_findWho_48 (G : kG) (d : Nat) (Q : Int32 → kM → Prop) (c : Nat) (v3 : Int32) (v4 : Int32) (h : kM) : Prop := Wp G d m_X0_findWho (kEo G d m_X0_findWho Q) 48 [.ref 40, .ref 18, .ref c, .int v3, .int v4, .null] [] h
theorem sg_X0_findWho_0 {G : kG} {d : Nat} {Q : Int32 → kM → Prop} {c : Nat} {a1 : Int32} {h : kM} (hd : 7 ≤ d) (k_c : kd c = (1, 24)) (H :
    Cal G (d - 1) m_X0_lookFrom [.ref 40, .ref 18, .int a1] h (fun x1 h2 =>
      ∀ h3 : kM, h3 = kU h2 40 8 (0 : Int32) →
      ∀ h4 : kM, h4 = kU h3 40 9 (-1 : Int32) →
      (vp_in (h4 40 5) 25) ∧
      ∀ q6 : Nat, q6 = 45 + ((h4 40 5)).toNatClampNeg → kd q6 = (1, 5) →
      Cal G (d - 1) m_X0_lieAsTold [.ref q6, .ref c, .int (h4 18 12)] h4 (fun x7 h8 =>
        ((x7 = 0 →
          ∀ h10 : kM, h10 = kU h8 40 10 (0 : Int32) →
          at_X0_findWho_48 G d Q c a1 (0 : Int32) h10
        ) ∧ (¬ (x7 = 0) →
          ∀ h11 : kM, h11 = kU h8 40 10 (1 : Int32) →
          at_X0_findWho_48 G d Q c a1 (0 : Int32) h11
        ))
      )
    )) : Wp G d m_X0_findWho (kEo G d m_X0_findWho Q) 0 [.ref 40, .ref 18, .ref c, .int a1, .null, .null] [] h := by
  refine wp_aload_n 1 dX0_findWho_0 rfl rfl ?_
  refine wp_aload_n 2 dX0_findWho_1 rfl rfl ?_
  refine wp_iload_n 3 dX0_findWho_2 rfl rfl ?_
  refine wp_cV (d - 1) 2 [.ref 18, .int a1] [] 6 dX0_findWho_3 rfl (lk_X0_29 rfl) (by omega) kd_40 rfl rfl rfl (Nat.le_of_ble_eq_true rfl) (H.mono (fun x1 h2 H => ?_))
  refine wp_aload_n 7 dX0_findWho_6 rfl rfl ?_
  refine wp_iconst (0 : Int32) 8 dX0_findWho_7 kiconst_0 rfl ?_
  refine wp_putI 11 dX0_findWho_8 rfl fl_X0_72 fin_0_8 kd_40 rfl ?_
  refine wp_nm (fun h3 eh3 => ?_)
  replace H := H h3 eh3
  refine wp_aload_n 12 dX0_findWho_11 rfl rfl ?_
  refine wp_iconst (-1 : Int32) 13 dX0_findWho_12 kiconst_m1 rfl ?_
  refine wp_putI 16 dX0_findWho_13 rfl fl_X0_75 fin_0_9 kd_40 rfl ?_
  refine wp_nm (fun h4 eh4 => ?_)
  replace H := H h4 eh4
  refine wp_aload_n 17 dX0_findWho_16 rfl rfl ?_
  refine wp_aload_n 18 dX0_findWho_17 rfl rfl ?_
  refine wp_getR 4 44 21 dX0_findWho_18 rfl fl_X0_23 kd_40 rfl rfl rfl rfl ?_
  refine wp_aload_n 22 dX0_findWho_21 rfl rfl ?_
  refine wp_getI 25 dX0_findWho_22 rfl fl_X0_37 kd_40 rfl ?_
  have c5 := H.1; replace H := H.2
  refine wp_course 26 dX0_findWho_25 rfl c5 (fun q6 eq6 k_q6 => ?_)
  replace H := H q6 eq6 k_q6
  refine wp_aload_n 27 dX0_findWho_26 rfl rfl ?_
  refine wp_aload_n 28 dX0_findWho_27 rfl rfl ?_
  refine wp_getI 31 dX0_findWho_28 rfl fl_X0_40 kd_18 rfl ?_
  refine wp_cS (d - 1) 3 [.ref q6, .ref c, .int (h4 18 12)] [.ref 40] 34 dX0_findWho_31 rfl (lk_X0_78 rfl) (by omega) rfl rfl (Nat.le_of_ble_eq_true rfl) (H.mono (fun x7 h8 H => ?_))
  refine wp_if_eq 41 37 dX0_findWho_34 rfl rfl ⟨fun c9 => ?_, fun c9 => ?_⟩
  · replace H := H.1 c9
    refine wp_iconst (0 : Int32) 42 dX0_findWho_41 kiconst_0 rfl ?_
    refine wp_putI 45 dX0_findWho_42 rfl fl_X0_82 fin_0_10 kd_40 rfl ?_
    refine wp_nm (fun h10 eh10 => ?_)
    replace H := H h10 eh10
    refine wp_iconst (0 : Int32) 46 dX0_findWho_45 kiconst_0 rfl ?_
    refine wp_istore 48 dX0_findWho_46 rfl (Nat.le_of_ble_eq_true rfl) rfl ?_
    exact H
  · replace H := H.2 c9
    refine wp_iconst (1 : Int32) 38 dX0_findWho_37 kiconst_1 rfl ?_
    refine wp_goto 42 dX0_findWho_38 rfl ?_
    refine wp_putI 45 dX0_findWho_42 rfl fl_X0_82 fin_0_10 kd_40 rfl ?_
    refine wp_nm (fun h11 eh11 => ?_)
    replace H := H h11 eh11
    refine wp_iconst (0 : Int32) 46 dX0_findWho_45 kiconst_0 rfl ?_
    refine wp_istore 48 dX0_findWho_46 rfl (Nat.le_of_ble_eq_true rfl) rfl ?_
    exact H

theorem cg_X0_findWho {G : kG} {d : Nat} {Q : Int32 → kM → Prop} {c : Nat} {a1 : Int32} {h : kM} (hd : 7 ≤ d) (k_c : kd c = (1, 24)) (H :
    Cal G (d - 1) m_X0_lookFrom [.ref 40, .ref 18, .int a1] h (fun x1 h2 =>
      ∀ h3 : kM, h3 = kU h2 40 8 (0 : Int32) →
      ∀ h4 : kM, h4 = kU h3 40 9 (-1 : Int32) →
      (vp_in (h4 40 5) 25) ∧
      ∀ q6 : Nat, q6 = 45 + ((h4 40 5)).toNatClampNeg → kd q6 = (1, 5) →
      Cal G (d - 1) m_X0_lieAsTold [.ref q6, .ref c, .int (h4 18 12)] h4 (fun x7 h8 =>
        ((x7 = 0 →
          ∀ h10 : kM, h10 = kU h8 40 10 (0 : Int32) →
          at_X0_findWho_48 G d Q c a1 (0 : Int32) h10
        ) ∧ (¬ (x7 = 0) →
          ∀ h11 : kM, h11 = kU h8 40 10 (1 : Int32) →
          at_X0_findWho_48 G d Q c a1 (0 : Int32) h11
        ))
      )
    )) : Cal G d m_X0_findWho [.ref 40, .ref 18, .ref c, .int a1] h Q :=
  Cal.of [.ref 40, .ref 18, .ref c, .int a1, .null, .null] (by decide +kernel) (Nat.le_of_ble_eq_true rfl) rfl (sg_X0_findWho_0 hd k_c H)

theorem sg_X0_findWho_48 {G : kG} {d : Nat} {Q : Int32 → kM → Prop} {c : Nat} {v3 : Int32} {v4 : Int32} {h : kM} (hd : 7 ≤ d) (k_c : kd c = (1, 24)) (H :
    ((((3 : Int32) * (h 18 12)) ≤ v4 →
      Q 0 h
    ) ∧ (¬ (((3 : Int32) * (h 18 12)) ≤ v4) →
      (vp_in v4 15) ∧
      ((¬ (h 26 (v4).toNatClampNeg) = (-1 : Int32) →
        ∀ h4 : kM, h4 = kU h 40 10 ((h 40 10) + (0 : Int32)) →
        at_X0_findWho_48 G d Q c v3 (v4 + (1 : Int32)) h4
      ) ∧ ((h 26 (v4).toNatClampNeg) = (-1 : Int32) →
        Cal G (d - 1) m_X0_rowsOf [.ref 40, .ref 18, .int v4, .ref c] h (fun x5 h6 =>
          ((x5 ≤ 0 →
            ∀ h8 : kM, h8 = kU h6 40 10 ((h6 40 10) + x5) →
            at_X0_findWho_48 G d Q c v3 (v4 + (1 : Int32)) h8
          ) ∧ (¬ (x5 ≤ 0) →
            ((¬ (h6 40 8) = 0 →
              ∀ h10 : kM, h10 = kU h6 40 9 (h6 40 9) →
              ∀ h11 : kM, h11 = kU h10 40 8 ((h10 40 8) + (1 : Int32)) →
              ∀ h12 : kM, h12 = kU h11 40 10 ((h11 40 10) + x5) →
              at_X0_findWho_48 G d Q c v3 (v4 + (1 : Int32)) h12
            ) ∧ ((h6 40 8) = 0 →
              ∀ h13 : kM, h13 = kU h6 40 9 v4 →
              ∀ h14 : kM, h14 = kU h13 40 8 ((h13 40 8) + (1 : Int32)) →
              ∀ h15 : kM, h15 = kU h14 40 10 ((h14 40 10) + x5) →
              at_X0_findWho_48 G d Q c v3 (v4 + (1 : Int32)) h15
            ))
          ))
        )
      ))
    ))) : at_X0_findWho_48 G d Q c v3 v4 h := by
  show Wp G d m_X0_findWho (kEo G d m_X0_findWho Q) 48 [.ref 40, .ref 18, .ref c, .int v3, .int v4, .null] [] h
  refine wp_iload 50 dX0_findWho_48 rfl rfl ?_
  refine wp_iconst (3 : Int32) 51 dX0_findWho_50 kiconst_3 rfl ?_
  refine wp_aload_n 52 dX0_findWho_51 rfl rfl ?_
  refine wp_getI 55 dX0_findWho_52 rfl fl_X0_40 kd_18 rfl ?_
  refine wp_imul 56 dX0_findWho_55 rfl ?_
  refine wp_icmp_ge 136 59 dX0_findWho_56 rfl rfl ⟨fun c1 => ?_, fun c1 => ?_⟩
  · replace H := H.1 c1
    exact wp_retv dX0_findWho_136 rfl H
  · replace H := H.2 c1
    refine wp_aload_n 60 dX0_findWho_59 rfl rfl ?_
    refine wp_getR 8 26 63 dX0_findWho_60 rfl fl_X0_85 kd_18 rfl rfl rfl rfl ?_
    refine wp_iload 65 dX0_findWho_63 rfl rfl ?_
    have c2 := H.1; replace H := H.2
    refine wp_iald 66 dX0_findWho_65 rfl kd_26 c2 ?_
    refine wp_iconst (-1 : Int32) 67 dX0_findWho_66 kiconst_m1 rfl ?_
    refine wp_icmp_ne 81 70 dX0_findWho_67 rfl rfl ⟨fun c3 => ?_, fun c3 => ?_⟩
    · replace H := H.1 c3
      refine wp_iconst (0 : Int32) 82 dX0_findWho_81 kiconst_0 rfl ?_
      refine wp_istore 84 dX0_findWho_82 rfl (Nat.le_of_ble_eq_true rfl) rfl ?_
      refine wp_iload 86 dX0_findWho_84 rfl rfl ?_
      refine wp_if_le 119 89 dX0_findWho_86 rfl rfl ⟨fun c => ?_, fun c => absurd (by decide) c⟩
      refine wp_aload_n 120 dX0_findWho_119 rfl rfl ?_
      refine wp_dup 121 dX0_findWho_120 rfl rfl ?_
      refine wp_getI 124 dX0_findWho_121 rfl fl_X0_82 kd_40 rfl ?_
      refine wp_iload 126 dX0_findWho_124 rfl rfl ?_
      refine wp_iadd 127 dX0_findWho_126 rfl ?_
      refine wp_putI 130 dX0_findWho_127 rfl fl_X0_82 fin_0_10 kd_40 rfl ?_
      refine wp_nm (fun h4 eh4 => ?_)
      replace H := H h4 eh4
      refine wp_iinc (1 : Int32) 133 dX0_findWho_130 rfl rfl kiconst_1 (Nat.le_of_ble_eq_true rfl) rfl ?_
      refine wp_goto 48 dX0_findWho_133 rfl ?_
      refine wp_drop 5 ?_
      exact H
    · replace H := H.2 c3
      refine wp_aload_n 71 dX0_findWho_70 rfl rfl ?_
      refine wp_aload_n 72 dX0_findWho_71 rfl rfl ?_
      refine wp_iload 74 dX0_findWho_72 rfl rfl ?_
      refine wp_aload_n 75 dX0_findWho_74 rfl rfl ?_
      refine wp_cV (d - 1) 3 [.ref 18, .int v4, .ref c] [] 78 dX0_findWho_75 rfl (lk_X0_88 rfl) (by omega) kd_40 rfl rfl rfl (Nat.le_of_ble_eq_true rfl) (H.mono (fun x5 h6 H => ?_))
      refine wp_goto 82 dX0_findWho_78 rfl ?_
      refine wp_istore 84 dX0_findWho_82 rfl (Nat.le_of_ble_eq_true rfl) rfl ?_
      refine wp_iload 86 dX0_findWho_84 rfl rfl ?_
      refine wp_if_le 119 89 dX0_findWho_86 rfl rfl ⟨fun c7 => ?_, fun c7 => ?_⟩
      · replace H := H.1 c7
        refine wp_aload_n 120 dX0_findWho_119 rfl rfl ?_
        refine wp_dup 121 dX0_findWho_120 rfl rfl ?_
        refine wp_getI 124 dX0_findWho_121 rfl fl_X0_82 kd_40 rfl ?_
        refine wp_iload 126 dX0_findWho_124 rfl rfl ?_
        refine wp_iadd 127 dX0_findWho_126 rfl ?_
        refine wp_putI 130 dX0_findWho_127 rfl fl_X0_82 fin_0_10 kd_40 rfl ?_
        refine wp_nm (fun h8 eh8 => ?_)
        replace H := H h8 eh8
        refine wp_iinc (1 : Int32) 133 dX0_findWho_130 rfl rfl kiconst_1 (Nat.le_of_ble_eq_true rfl) rfl ?_
        refine wp_goto 48 dX0_findWho_133 rfl ?_
        refine wp_drop 5 ?_
        exact H
      · replace H := H.2 c7
        refine wp_aload_n 90 dX0_findWho_89 rfl rfl ?_
        refine wp_aload_n 91 dX0_findWho_90 rfl rfl ?_
        refine wp_getI 94 dX0_findWho_91 rfl fl_X0_72 kd_40 rfl ?_
        refine wp_if_ne 102 97 dX0_findWho_94 rfl rfl ⟨fun c9 => ?_, fun c9 => ?_⟩
        · replace H := H.1 c9
          refine wp_aload_n 103 dX0_findWho_102 rfl rfl ?_
          refine wp_getI 106 dX0_findWho_103 rfl fl_X0_75 kd_40 rfl ?_
          refine wp_putI 109 dX0_findWho_106 rfl fl_X0_75 fin_0_9 kd_40 rfl ?_
          refine wp_nm (fun h10 eh10 => ?_)
          replace H := H h10 eh10
          refine wp_aload_n 110 dX0_findWho_109 rfl rfl ?_
          refine wp_dup 111 dX0_findWho_110 rfl rfl ?_
          refine wp_getI 114 dX0_findWho_111 rfl fl_X0_72 kd_40 rfl ?_
          refine wp_iconst (1 : Int32) 115 dX0_findWho_114 kiconst_1 rfl ?_
          refine wp_iadd 116 dX0_findWho_115 rfl ?_
          refine wp_putI 119 dX0_findWho_116 rfl fl_X0_72 fin_0_8 kd_40 rfl ?_
          refine wp_nm (fun h11 eh11 => ?_)
          replace H := H h11 eh11
          refine wp_aload_n 120 dX0_findWho_119 rfl rfl ?_
          refine wp_dup 121 dX0_findWho_120 rfl rfl ?_
          refine wp_getI 124 dX0_findWho_121 rfl fl_X0_82 kd_40 rfl ?_
          refine wp_iload 126 dX0_findWho_124 rfl rfl ?_
          refine wp_iadd 127 dX0_findWho_126 rfl ?_
          refine wp_putI 130 dX0_findWho_127 rfl fl_X0_82 fin_0_10 kd_40 rfl ?_
          refine wp_nm (fun h12 eh12 => ?_)
          replace H := H h12 eh12
          refine wp_iinc (1 : Int32) 133 dX0_findWho_130 rfl rfl kiconst_1 (Nat.le_of_ble_eq_true rfl) rfl ?_
          refine wp_goto 48 dX0_findWho_133 rfl ?_
          refine wp_drop 5 ?_
          exact H
        · replace H := H.2 c9
          refine wp_iload 99 dX0_findWho_97 rfl rfl ?_
          refine wp_goto 106 dX0_findWho_99 rfl ?_
          refine wp_putI 109 dX0_findWho_106 rfl fl_X0_75 fin_0_9 kd_40 rfl ?_
          refine wp_nm (fun h13 eh13 => ?_)
          replace H := H h13 eh13
          refine wp_aload_n 110 dX0_findWho_109 rfl rfl ?_
          refine wp_dup 111 dX0_findWho_110 rfl rfl ?_
          refine wp_getI 114 dX0_findWho_111 rfl fl_X0_72 kd_40 rfl ?_
          refine wp_iconst (1 : Int32) 115 dX0_findWho_114 kiconst_1 rfl ?_
          refine wp_iadd 116 dX0_findWho_115 rfl ?_
          refine wp_putI 119 dX0_findWho_116 rfl fl_X0_72 fin_0_8 kd_40 rfl ?_
          refine wp_nm (fun h14 eh14 => ?_)
          replace H := H h14 eh14
          refine wp_aload_n 120 dX0_findWho_119 rfl rfl ?_
          refine wp_dup 121 dX0_findWho_120 rfl rfl ?_
          refine wp_getI 124 dX0_findWho_121 rfl fl_X0_82 kd_40 rfl ?_
          refine wp_iload 126 dX0_findWho_124 rfl rfl ?_
          refine wp_iadd 127 dX0_findWho_126 rfl ?_
          refine wp_putI 130 dX0_findWho_127 rfl fl_X0_82 fin_0_10 kd_40 rfl ?_
          refine wp_nm (fun h15 eh15 => ?_)
          replace H := H h15 eh15
          refine wp_iinc (1 : Int32) 133 dX0_findWho_130 rfl rfl kiconst_1 (Nat.le_of_ble_eq_true rfl) rfl ?_
          refine wp_goto 48 dX0_findWho_133 rfl ?_
          refine wp_drop 5 ?_
          exact H

theorem sp_X0_findWho (hd : 7 ≤ d) {N n c : Nat} {g : Nat → Int32} {H f w : Nat} (hS : kSRn (kVw h 18) g n H f w) (hN : N ≤ 24) (hH : H ≤ 9999) (kc : kd c = (1, 24)) (hc : 70 < c) (kk : ∀ h1, kFs 18 h h1 → h1 40 10 = (kWf (h c) (kVw h 18) N n (3 * n)).1 → h1 40 8 = nI (kWf (h c) (kVw h 18) N n (3 * n)).2.1 → h1 40 9 = (kWf (h c) (kVw h 18) N n (3 * n)).2.2 → Q 0 h1) : Cal G d m_X0_findWho [.ref 40, .ref 18, .ref c, .int (nI N)] h Q := by
  have hn := hS.1.1
  have lp : ∀ (m i : Nat) (h1 : kM), i + m = 3 * n → kLk 18 N n N N 0 h h1 → h1 40 10 = (kWf (h c) (kVw h 18) N n i).1 → h1 40 8 = nI (kWf (h c) (kVw h 18) N n i).2.1 → h1 40 9 = (kWf (h c) (kVw h 18) N n i).2.2 → at_X0_findWho_48 G d Q c (nI N) (nI i) h1 := by
    intro m
    induction m with
    | zero =>
      intro i h1 hi L y10 y8 y9
      have hi2 : i = 3 * n := by omega
      subst hi2
      have e0 : (3 : Int32) * h1 18 12 = nI (3 * n) := by rw [L.1 18 (by decide) (by decide) (by decide), show h 18 12 = nI n from hS.1.2.1]; exact pk_mul 3 n
      exact sg_X0_findWho_48 hd kc ⟨fun _ => kk h1 L.1 y10 y8 y9, fun z => absurd (by rw [e0]; exact nI_le (Nat.le_refl _) (by omega)) z⟩
    | succ m ih =>
      intro i h1 hi L y10 y8 y9
      have e0 : (3 : Int32) * h1 18 12 = nI (3 * n) := by rw [L.1 18 (by decide) (by decide) (by decide), show h 18 12 = nI n from hS.1.2.1]; exact pk_mul 3 n
      obtain ⟨w1, w2⟩ := kWf_f (X := h c) (v := kVw h 18) (N := N) (n := n) i
      have kpf : ∀ h2, (∀ a, a ≠ 40 → h2 a = h1 a) → h2 40 5 = h1 40 5 → kLk 18 N n N N 0 h h2 := fun h2 o e5 => L.keep kSea_is18 (Or.inr ⟨hN, rfl⟩) (fun a x _ _ _ _ => o a x) e5
      refine sg_X0_findWho_48 hd kc ⟨fun z => absurd z (by rw [e0]; exact ltn (nI_lt (by omega) (by omega))), fun _ => ⟨vp_in_nI (by omega) (by decide), ?_⟩⟩
      rw [nI_clamp (by omega), L.1 26 (by decide) (by decide) (by decide), nI_1]
      refine ⟨fun z h4 e4 => ?_, fun z => ?_⟩
      · have hr : kRw (h c) (kVw h 18) N n i = 0 := kRw_n z
        have hl : kRw (h c) (kVw h 18) N n i ≤ 0 := by rw [hr]; exact Int32.le_refl 0
        refine ih (i + 1) h4 (by omega) (kpf h4 (fun a x => by rw [e4, kU_ne x]) (by rw [e4, kU_eq, pk_un (by decide)])) ?_ ?_ ?_
        · rw [e4, kU_eq, pk_us, kWf_l hl, hr, y10]
        · rw [e4, kU_eq, pk_un (by decide), kWf_l hl, y8]
        · rw [e4, kU_eq, pk_un (by decide), kWf_l hl, y9]
      · refine sp_X0_rowsOf (d := d - 1) (by omega) hS hN hH (by omega) z kc hc L (fun h6 L6 e40 => ?_)
        have kp6 : ∀ h2, (∀ a, a ≠ 40 → h2 a = h6 a) → h2 40 5 = h6 40 5 → kLk 18 N n N N 0 h h2 := fun h2 o e5 => L6.keep kSea_is18 (Or.inr ⟨hN, rfl⟩) (fun a x _ _ _ _ => o a x) e5
        rw [e40, y10, y8, y9]
        refine ⟨fun hl h8 e8 => ?_, fun hl => ⟨fun zm h10 e10 h11 e11 h12 e12 => ?_, fun zm h13 e13 h14 e14 h15 e15 => ?_⟩⟩
        · refine ih (i + 1) h8 (by omega) (kp6 h8 (fun a x => by rw [e8, kU_ne x]) (by rw [e8, kU_eq, pk_un (by decide)])) ?_ ?_ ?_
          · rw [e8, kU_eq, pk_us, kWf_l hl]
          · rw [e8, kU_eq, pk_un (by decide), kWf_l hl, e40, y8]
          · rw [e8, kU_eq, pk_un (by decide), kWf_l hl, e40, y9]
        · have zm' : ¬ (kWf (h c) (kVw h 18) N n i).2.1 = 0 := fun e => zm (by rw [e]; exact nI_0)
          have a8 : h10 40 8 = nI (kWf (h c) (kVw h 18) N n i).2.1 := by rw [e10, kU_eq, pk_un (by decide), e40, y8]
          rw [a8, nI_1] at e11
          have a10 : h11 40 10 = (kWf (h c) (kVw h 18) N n i).1 := by rw [e11, kU_eq, pk_un (by decide), e10, kU_eq, pk_un (by decide), e40, y10]
          rw [a10] at e12
          refine ih (i + 1) h12 (by omega) (kp6 h12 (fun a x => by rw [e12, kU_ne x, e11, kU_ne x, e10, kU_ne x]) (by rw [e12, kU_eq, pk_un (by decide), e11, kU_eq, pk_un (by decide), e10, kU_eq, pk_un (by decide)])) ?_ ?_ ?_
          · rw [e12, kU_eq, pk_us, kWf_g hl]
          · rw [e12, kU_eq, pk_un (by decide), e11, kU_eq, pk_us, kWf_g hl]
          · rw [e12, kU_eq, pk_un (by decide), e11, kU_eq, pk_un (by decide), e10, kU_eq, pk_us, kWf_g hl, if_neg zm']
        · have zm' : (kWf (h c) (kVw h 18) N n i).2.1 = 0 := (nI_eq (b := 0) (by omega) (by decide)).mp (zm.trans nI_0.symm)
          have a8 : h13 40 8 = nI (kWf (h c) (kVw h 18) N n i).2.1 := by rw [e13, kU_eq, pk_un (by decide), e40, y8]
          rw [a8, nI_1] at e14
          have a10 : h14 40 10 = (kWf (h c) (kVw h 18) N n i).1 := by rw [e14, kU_eq, pk_un (by decide), e13, kU_eq, pk_un (by decide), e40, y10]
          rw [a10] at e15
          refine ih (i + 1) h15 (by omega) (kp6 h15 (fun a x => by rw [e15, kU_ne x, e14, kU_ne x, e13, kU_ne x]) (by rw [e15, kU_eq, pk_un (by decide), e14, kU_eq, pk_un (by decide), e13, kU_eq, pk_un (by decide)])) ?_ ?_ ?_
          · rw [e15, kU_eq, pk_us, kWf_g hl]
          · rw [e15, kU_eq, pk_un (by decide), e14, kU_eq, pk_us, kWf_g hl]
          · rw [e15, kU_eq, pk_un (by decide), e14, kU_eq, pk_un (by decide), e13, kU_eq, pk_us, kWf_g hl, if_pos zm']
  refine cg_X0_findWho hd kc (sp_X0_lookFrom (d := d - 1) (by omega) kSea_is18 hS hN hH (fun h2 L2 h3 e3 h4 e4 => ?_))
  have L4 : kLk 18 N n N N 0 h h4 := L2.keep kSea_is18 (Or.inr ⟨hN, rfl⟩) (fun a x _ _ _ _ => by rw [e4, kU_ne x, e3, kU_ne x]) (by rw [e4, kU_eq, pk_un (by decide), e3, kU_eq, pk_un (by decide)])
  rw [L4.2.1, nI_clamp (by omega)]
  refine ⟨vp_in_nI (by omega) (by decide), fun q5 e5 k5 => ?_⟩
  subst e5
  have b12 : h4 18 12 = nI n := by rw [L4.1 18 (by decide) (by decide) (by decide)]; exact hS.1.2.1
  have hcc : h4 c = h c := L4.1 c (by omega) (by omega) (by omega)
  rw [b12]
  refine sp_X0_lieAsTold (d := d - 1) (by omega) k5 kc (W := kHrN (kVw h 18) N) hn (fun p hp => ?_) ?_
  · have l := kSh_pl hS hp (i := N) (by omega)
    exact ⟨kSh (kVw h 18) p N, l.2.1, l.2.2, L4.2.2.2.1 N (Nat.le_refl N) p hp, rfl⟩
  · rw [hcc]
    have st : ∀ y h10, y = kLy (h c) (kHrN (kVw h 18) N) n → h10 = kU h4 40 10 y → at_X0_findWho_48 G d Q c (nI N) 0 h10 := fun y h10 hy e10 => by
      refine lp (3 * n) 0 h10 (by omega) (L4.keep kSea_is18 (Or.inr ⟨hN, rfl⟩) (fun a x _ _ _ _ => by rw [e10, kU_ne x]) (by rw [e10, kU_eq, pk_un (by decide)])) ?_ ?_ ?_
      · rw [e10, kU_eq, pk_us, hy]
        rfl
      · rw [e10, kU_eq, pk_un (by decide), e4, kU_eq, pk_un (by decide), e3, kU_eq, pk_us]
        exact nI_0.symm
      · rw [e10, kU_eq, pk_un (by decide), e4, kU_eq, pk_us]
        rfl
    exact ⟨fun z h10 e10 => st 0 h10 z.symm e10, fun z h11 e11 => st 1 h11 ((kLy_01 n).resolve_left z).symm e11⟩
end Who

