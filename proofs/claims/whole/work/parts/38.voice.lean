/-! voices: the class -/
section Voice
variable {G : kG} {d : Nat} {Q : Int32 → kM → Prop} {h : kM}
/-- the body of a voice of a kind, or of the next above -/
def kBdF (v : Nat) : Nat → Nat → Int32
  | 0, _ => 0
  | f + 1, c => if kBo.getD (4 * c + v) 0 = 0 then (if c = 0 then 0 else kBdF v f (kAb.getD c 0).toNatClampNeg) else kBo.getD (4 * c + v) 0
def at_X5_bodyFrom_4 (G : kG) (d : Nat) (Q : Int32 → kM → Prop)  (v0 : Int32) (v1 : Int32) (v2 : Int32) (v3 : Int32) (h : kM) : Prop := Wp G d m_X5_bodyFrom (kEo G d m_X5_bodyFrom Q) 4 [.int v0, .int v1, .int v2, .int v3, .null] [] h
theorem sg_X5_bodyFrom_0 {G : kG} {d : Nat} {Q : Int32 → kM → Prop}  {a1 : Int32} {a2 : Int32} {h : kM} (hd : 2 ≤ d)  (H :
    at_X5_bodyFrom_4 G d Q a1 a2 a2 (0 : Int32) h) : Wp G d m_X5_bodyFrom (kEo G d m_X5_bodyFrom Q) 0 [.int a1, .int a2, .null, .null, .null] [] h := by
  refine wp_iload_n 1 dX5_bodyFrom_0 rfl rfl ?_
  refine wp_istore_n 2 dX5_bodyFrom_1 rfl (Nat.le_of_ble_eq_true rfl) rfl ?_
  refine wp_iconst (0 : Int32) 3 dX5_bodyFrom_2 kiconst_0 rfl ?_
  refine wp_istore_n 4 dX5_bodyFrom_3 rfl (Nat.le_of_ble_eq_true rfl) rfl ?_
  exact H

theorem cg_X5_bodyFrom {G : kG} {d : Nat} {Q : Int32 → kM → Prop}  {a1 : Int32} {a2 : Int32} {h : kM} (hd : 2 ≤ d)  (H :
    at_X5_bodyFrom_4 G d Q a1 a2 a2 (0 : Int32) h) : Cal G d m_X5_bodyFrom [.int a1, .int a2] h Q :=
  Cal.of [.int a1, .int a2, .null, .null, .null] (by decide +kernel) (Nat.le_of_ble_eq_true rfl) rfl (sg_X5_bodyFrom_0 hd  H)

theorem sg_X5_bodyFrom_4 {G : kG} {d : Nat} {Q : Int32 → kM → Prop}  {v0 : Int32} {v1 : Int32} {v2 : Int32} {v3 : Int32} {h : kM} (hd : 2 ≤ d)  (H :
    (((7 : Int32) ≤ v3 →
      Q (0 : Int32) h
    ) ∧ (¬ ((7 : Int32) ≤ v3) →
      (((kb (0 ≤ v2 ∧ v2 < (7 : Int32))) = 0 →
        Q (0 : Int32) h
      ) ∧ (¬ ((kb (0 ≤ v2 ∧ v2 < (7 : Int32))) = 0) →
        (vp_in (((4 : Int32) * v2) + v0) 28) ∧
        (((kBo.getD ((((4 : Int32) * v2) + v0)).toNatClampNeg 0) = 0 →
          (vp_in v2 7) ∧
          at_X5_bodyFrom_4 G d Q v0 v1 (kAb.getD (v2).toNatClampNeg 0) (v3 + (1 : Int32)) h
        ) ∧ (¬ ((kBo.getD ((((4 : Int32) * v2) + v0)).toNatClampNeg 0) = 0) →
          Q (kBo.getD ((((4 : Int32) * v2) + v0)).toNatClampNeg 0) h
        ))
      ))
    ))) : at_X5_bodyFrom_4 G d Q v0 v1 v2 v3 h := by
  show Wp G d m_X5_bodyFrom (kEo G d m_X5_bodyFrom Q) 4 [.int v0, .int v1, .int v2, .int v3, .null] [] h
  refine wp_iload_n 5 dX5_bodyFrom_4 rfl rfl ?_
  refine wp_bipush (7 : Int32) 7 dX5_bodyFrom_5 kbipush_7 rfl ?_
  refine wp_icmp_ge 50 10 dX5_bodyFrom_7 rfl rfl ⟨fun c1 => ?_, fun c1 => ?_⟩
  · replace H := H.1 c1
    refine wp_iconst (0 : Int32) 51 dX5_bodyFrom_50 kiconst_0 rfl ?_
    exact wp_reti dX5_bodyFrom_51 rfl H
  · replace H := H.2 c1
    refine wp_iload_n 11 dX5_bodyFrom_10 rfl rfl ?_
    refine wp_bipush (7 : Int32) 13 dX5_bodyFrom_11 kbipush_7 rfl ?_
    refine wp_cN (d - 1) 2 [.int v2, .int (7 : Int32)] [] 16 dX5_bodyFrom_13 rfl (lk_X5_36 rfl) (by omega) rfl rfl (Nat.le_of_ble_eq_true rfl) (sp_X7_within (by omega)  ?_)
    refine wp_if_eq 50 19 dX5_bodyFrom_16 rfl rfl ⟨fun c2 => ?_, fun c2 => ?_⟩
    · replace H := H.1 c2
      refine wp_iconst (0 : Int32) 51 dX5_bodyFrom_50 kiconst_0 rfl ?_
      exact wp_reti dX5_bodyFrom_51 rfl H
    · replace H := H.2 c2
      refine wp_getsB 22 dX5_bodyFrom_19 rfl gs_X5_40 ?_
      refine wp_iconst (4 : Int32) 23 dX5_bodyFrom_22 kiconst_4 rfl ?_
      refine wp_iload_n 24 dX5_bodyFrom_23 rfl rfl ?_
      refine wp_imul 25 dX5_bodyFrom_24 rfl ?_
      refine wp_iload_n 26 dX5_bodyFrom_25 rfl rfl ?_
      refine wp_iadd 27 dX5_bodyFrom_26 rfl ?_
      have c3 := H.1; replace H := H.2
      refine wp_ialdB 28 dX5_bodyFrom_27 rfl c3 ?_
      refine wp_istore 30 dX5_bodyFrom_28 rfl (Nat.le_of_ble_eq_true rfl) rfl ?_
      refine wp_iload 32 dX5_bodyFrom_30 rfl rfl ?_
      refine wp_if_eq 38 35 dX5_bodyFrom_32 rfl rfl ⟨fun c4 => ?_, fun c4 => ?_⟩
      · replace H := H.1 c4
        refine wp_getsAN 41 dX5_bodyFrom_38 rfl gs_X5_43 ?_
        refine wp_iload_n 42 dX5_bodyFrom_41 rfl rfl ?_
        have c5 := H.1; replace H := H.2
        refine wp_ialdA 43 dX5_bodyFrom_42 rfl c5 ?_
        refine wp_istore_n 44 dX5_bodyFrom_43 rfl (Nat.le_of_ble_eq_true rfl) rfl ?_
        refine wp_iinc (1 : Int32) 47 dX5_bodyFrom_44 rfl rfl kiconst_1 (Nat.le_of_ble_eq_true rfl) rfl ?_
        refine wp_goto 4 dX5_bodyFrom_47 rfl ?_
        refine wp_drop 4 ?_
        exact H
      · replace H := H.2 c4
        refine wp_iload 37 dX5_bodyFrom_35 rfl rfl ?_
        exact wp_reti dX5_bodyFrom_37 rfl H

theorem sg_X5_begin_0 {G : kG} {d : Nat} {Q : Int32 → kM → Prop}  {a1 : Int32} {h : kM} (hd : 1 ≤ d)  (H :
    (((30 : Int32) ≤ (h 76 1) →
      Q 0 h
    ) ∧ (¬ ((30 : Int32) ≤ (h 76 1)) →
      (vp_in (h 76 1) 30) ∧
      ∀ h3 : kM, h3 = kU h 77 ((h 76 1)).toNatClampNeg a1 →
      ∀ h4 : kM, h4 = kU h3 76 1 ((h3 76 1) + (1 : Int32)) →
      Q 0 h4
    ))) : Wp G d m_X5_begin (kEo G d m_X5_begin Q) 0 [.ref 76, .int a1] [] h := by
  refine wp_aload_n 1 dX5_begin_0 rfl rfl ?_
  refine wp_getI 4 dX5_begin_1 rfl fl_X5_29 kd_76 rfl ?_
  refine wp_bipush (30 : Int32) 6 dX5_begin_4 kbipush_30 rfl ?_
  refine wp_icmp_ge 29 9 dX5_begin_6 rfl rfl ⟨fun c1 => ?_, fun c1 => ?_⟩
  · replace H := H.1 c1
    exact wp_retv dX5_begin_29 rfl H
  · replace H := H.2 c1
    refine wp_aload_n 10 dX5_begin_9 rfl rfl ?_
    refine wp_getR 1 77 13 dX5_begin_10 rfl fl_X5_11 kd_76 rfl rfl rfl rfl ?_
    refine wp_aload_n 14 dX5_begin_13 rfl rfl ?_
    refine wp_getI 17 dX5_begin_14 rfl fl_X5_29 kd_76 rfl ?_
    refine wp_iload_n 18 dX5_begin_17 rfl rfl ?_
    have c2 := H.1; replace H := H.2
    refine wp_iast 19 dX5_begin_18 rfl kd_77 c2 ?_
    refine wp_nm (fun h3 eh3 => ?_)
    replace H := H h3 eh3
    refine wp_aload_n 20 dX5_begin_19 rfl rfl ?_
    refine wp_dup 21 dX5_begin_20 rfl rfl ?_
    refine wp_getI 24 dX5_begin_21 rfl fl_X5_29 kd_76 rfl ?_
    refine wp_iconst (1 : Int32) 25 dX5_begin_24 kiconst_1 rfl ?_
    refine wp_iadd 26 dX5_begin_25 rfl ?_
    refine wp_putI 29 dX5_begin_26 rfl fl_X5_29 fin_5_1 kd_76 rfl ?_
    refine wp_nm (fun h4 eh4 => ?_)
    replace H := H h4 eh4
    exact wp_retv dX5_begin_29 rfl H

theorem cg_X5_begin {G : kG} {d : Nat} {Q : Int32 → kM → Prop}  {a1 : Int32} {h : kM} (hd : 1 ≤ d)  (H :
    (((30 : Int32) ≤ (h 76 1) →
      Q 0 h
    ) ∧ (¬ ((30 : Int32) ≤ (h 76 1)) →
      (vp_in (h 76 1) 30) ∧
      ∀ h3 : kM, h3 = kU h 77 ((h 76 1)).toNatClampNeg a1 →
      ∀ h4 : kM, h4 = kU h3 76 1 ((h3 76 1) + (1 : Int32)) →
      Q 0 h4
    ))) : Cal G d m_X5_begin [.ref 76, .int a1] h Q :=
  Cal.of [.ref 76, .int a1] (by decide +kernel) (Nat.le_of_ble_eq_true rfl) rfl (sg_X5_begin_0 hd  H)

theorem sg_X5_partedBy_0 {G : kG} {d : Nat} {Q : Int32 → kM → Prop}  {a1 : Int32} {a2 : Int32} {h : kM} (hd : 1 ≤ d)  (H :
    ((¬ a2 = 0 →
      (¬ a2 = 0) ∧
      Q (a1 / a2) h
    ) ∧ (a2 = 0 →
      ∀ h3 : kM, h3 = kU h 76 2 (1 : Int32) →
      Q (0 : Int32) h3
    ))) : Wp G d m_X5_partedBy (kEo G d m_X5_partedBy Q) 0 [.ref 76, .int a1, .int a2] [] h := by
  refine wp_iload_n 1 dX5_partedBy_0 rfl rfl ?_
  refine wp_if_ne 11 4 dX5_partedBy_1 rfl rfl ⟨fun c1 => ?_, fun c1 => ?_⟩
  · replace H := H.1 c1
    refine wp_iload_n 12 dX5_partedBy_11 rfl rfl ?_
    refine wp_iload_n 13 dX5_partedBy_12 rfl rfl ?_
    have c2 := H.1; replace H := H.2
    refine wp_idiv 14 dX5_partedBy_13 c2 rfl ?_
    exact wp_reti dX5_partedBy_14 rfl H
  · replace H := H.2 c1
    refine wp_aload_n 5 dX5_partedBy_4 rfl rfl ?_
    refine wp_iconst (1 : Int32) 6 dX5_partedBy_5 kiconst_1 rfl ?_
    refine wp_putZ 9 dX5_partedBy_6 rfl fl_X5_25 fin_5_2 kd_76 rfl (Or.inr rfl) ?_
    refine wp_nm (fun h3 eh3 => ?_)
    replace H := H h3 eh3
    refine wp_iconst (0 : Int32) 10 dX5_partedBy_9 kiconst_0 rfl ?_
    exact wp_reti dX5_partedBy_10 rfl H

theorem cg_X5_partedBy {G : kG} {d : Nat} {Q : Int32 → kM → Prop}  {a1 : Int32} {a2 : Int32} {h : kM} (hd : 1 ≤ d)  (H :
    ((¬ a2 = 0 →
      (¬ a2 = 0) ∧
      Q (a1 / a2) h
    ) ∧ (a2 = 0 →
      ∀ h3 : kM, h3 = kU h 76 2 (1 : Int32) →
      Q (0 : Int32) h3
    ))) : Cal G d m_X5_partedBy [.ref 76, .int a1, .int a2] h Q :=
  Cal.of [.ref 76, .int a1, .int a2] (by decide +kernel) (Nat.le_of_ble_eq_true rfl) rfl (sg_X5_partedBy_0 hd  H)

theorem kAb_n : ∀ c, c < 7 → ¬ c = 0 → (kAb.getD c 0).toNatClampNeg < 7 ∧ kAb.getD c 0 = nI (kAb.getD c 0).toNatClampNeg := by decide +kernel
theorem ix4 (c v : Nat) : (4 : Int32) * nI c + nI v = nI (4 * c + v) := by
  show nI 4 * nI c + nI v = _
  rw [pk_mul, nI_add]
theorem sp_X5_bodyFrom (hd : 2 ≤ d) {v c : Nat} (hv : v < 4) (hc : c < 7) (k : Q (kBdF v 7 c) h) : Cal G d m_X5_bodyFrom [.int (nI v), .int (nI c)] h Q := by
  have lp : ∀ (w1 : Int32) (f i c : Nat), i + f = 7 → c < 7 → Q (kBdF v f c) h → at_X5_bodyFrom_4 G d Q (nI v) w1 (nI c) (nI i) h := by
    intro w1 f
    induction f with
    | zero =>
      intro i c hi hc k
      have hi7 : i = 7 := by omega
      subst hi7
      exact sg_X5_bodyFrom_4 hd ⟨fun _ => k, fun z => absurd (nI_le (Nat.le_refl 7) (by decide)) z⟩
    | succ f ih =>
      intro i c hi hc k
      refine sg_X5_bodyFrom_4 hd ⟨fun z => absurd z (ltn (nI_lt (b := 7) (by omega) (by decide))), fun _ => ⟨fun z => absurd (iLt hc (by decide)) (kb_0.mp z), fun _ => ?_⟩⟩
      rw [ix4, nI_clamp (n := 4 * c + v) (by omega), nI_clamp (n := c) (by omega), nI_1]
      have kd' : Q (if kBo.getD (4 * c + v) 0 = 0 then (if c = 0 then 0 else kBdF v f (kAb.getD c 0).toNatClampNeg) else kBo.getD (4 * c + v) 0) h := k
      refine ⟨vp_in_nI (by omega) (by decide), fun z => ⟨vp_in_nI hc (by decide), ?_⟩, fun z => ?_⟩
      · rw [if_pos z] at kd'
        by_cases c0 : c = 0
        · rw [if_pos c0] at kd'
          subst c0
          exact sg_X5_bodyFrom_4 hd ⟨fun _ => kd', fun _ => ⟨fun _ => kd', fun y => absurd (kb_n0.mp y) (by decide)⟩⟩
        · rw [if_neg c0] at kd'
          obtain ⟨n1, n2⟩ := kAb_n c hc c0
          rw [n2]
          exact ih (i + 1) _ (by omega) n1 kd'
      · rw [if_neg z] at kd'
        exact kd'
  exact cg_X5_bodyFrom hd (lp (nI c) 7 0 c (by omega) hc k)
/-- the trace so far: the class's, the model's -/
def kTc (L : List Int32) (h : kM) : Prop := h 76 1 = nI L.length ∧ ∀ i, i < L.length → h 77 i = L.getD i 0
def kTm (L : List Int32) (h : kM) : Prop := h 88 17 = nI L.length ∧ ∀ i, i < L.length → h 97 i = L.getD i 0
/-- only the trace differs -/
def kCf (h h' : kM) : Prop := (∀ a, a ≠ 76 → a ≠ 77 → h' a = h a) ∧ ∀ s, s ≠ 1 → h' 76 s = h 76 s
theorem kCf.tr {h h1 h2 : kM} (a : kCf h h1) (b : kCf h1 h2) : kCf h h2 := ⟨fun c x y => (b.1 c x y).trans (a.1 c x y), fun s x => (b.2 s x).trans (a.2 s x)⟩
def kMf (h h' : kM) : Prop := (∀ a, a ≠ 88 → a ≠ 97 → h' a = h a) ∧ ∀ s, s ≠ 17 → h' 88 s = h 88 s
theorem kMf.tr {h h1 h2 : kM} (a : kMf h h1) (b : kMf h1 h2) : kMf h h2 := ⟨fun c x y => (b.1 c x y).trans (a.1 c x y), fun s x => (b.2 s x).trans (a.2 s x)⟩
/-- the speaker: not parted; its knot's kind, number, name -/
def kSp (t : Nat) (M K : Int32) (h : kM) : Prop := h 76 2 = 0 ∧ h 76 3 = nI t ∧ h 76 4 = M ∧ h 76 5 = K
theorem kSp.f {t : Nat} {M K : Int32} {h h1 : kM} (p : kSp t M K h) (f : kCf h h1) : kSp t M K h1 := by
  obtain ⟨p1, p2, p3, p4⟩ := p
  exact ⟨by rw [f.2 2 (by decide), p1], by rw [f.2 3 (by decide), p2], by rw [f.2 4 (by decide), p3], by rw [f.2 5 (by decide), p4]⟩
theorem getD_app {L : List Int32} {b : Int32} {i : Nat} (hi : i < (L ++ [b]).length) : (L ++ [b]).getD i 0 = if i = L.length then b else L.getD i 0 := by
  rw [List.length_append] at hi
  have hi2 : i < L.length + 1 := hi
  by_cases e : i = L.length
  · rw [if_pos e, e, List.getD_eq_getElem?_getD, List.getElem?_append_right (Nat.le_refl _), Nat.sub_self]
    rfl
  · rw [if_neg e, List.getD_eq_getElem?_getD, List.getElem?_append_left (by omega), ← List.getD_eq_getElem?_getD]
theorem sp_X5_begin (hd : 1 ≤ d) {b : Int32} {L : List Int32} (hT : kTc L h) (hl : L.length < 30) (k : ∀ h1, kTc (L ++ [b]) h1 → kCf h h1 → Q 0 h1) : Cal G d m_X5_begin [.ref 76, .int b] h Q := by
  obtain ⟨t1, t2⟩ := hT
  refine cg_X5_begin hd ⟨fun z => absurd z (by rw [t1]; exact ltn (nI_lt (b := 30) hl (by decide))), fun _ => ⟨by rw [t1]; exact vp_in_nI hl (by decide), fun h3 e3 h4 e4 => ?_⟩⟩
  rw [t1, nI_clamp (by omega)] at e3
  have x1 : h3 76 1 = nI L.length := by rw [e3, kU_ne (by decide), t1]
  rw [x1, nI_1] at e4
  refine k h4 ⟨?_, fun i hi => ?_⟩ ⟨fun a a1 a2 => by rw [e4, kU_ne a1, e3, kU_ne a2], fun s hs => by rw [e4, kU_eq, pk_un hs, e3, kU_ne (by decide)]⟩
  · rw [e4, kU_eq, pk_us, List.length_append]
    rfl
  · rw [getD_app hi, e4, kU_ne (by decide), e3, kU_eq]
    rw [List.length_append] at hi
    have hi2 : i < L.length + 1 := hi
    by_cases e : i = L.length
    · rw [if_pos e, e, pk_us]
    · rw [if_neg e, pk_un e]
      exact t2 i (by omega)
theorem begM {b : Int32} {L : List Int32} (hT : kTm L h) (hl : L.length < 30) : (¬ 30 ≤ h 88 17 → vp_in (h 88 17) 30) ∧ ∀ h1, h1 = mBeg h b → kTm (L ++ [b]) h1 ∧ kMf h h1 := by
  obtain ⟨t1, t2⟩ := hT
  refine ⟨fun _ => by rw [t1]; exact vp_in_nI hl (by decide), fun h4 e4 => ?_⟩
  unfold mBeg at e4
  have n30 : ¬ (30 : Int32) ≤ nI L.length := ltn (nI_lt (b := 30) hl (by decide))
  rw [t1, if_neg n30, nI_clamp (by omega), nI_1] at e4
  refine ⟨⟨?_, fun i hi => ?_⟩, fun a a1 a2 => by rw [e4, kU_ne a1, kU_ne a2], fun s hs => by rw [e4, kU_eq, pk_un hs, kU_ne (by decide)]⟩
  · rw [e4, kU_eq, pk_us, List.length_append]
    rfl
  · rw [getD_app hi, e4, kU_ne (by decide), kU_eq]
    rw [List.length_append] at hi
    have hi2 : i < L.length + 1 := hi
    by_cases e : i = L.length
    · rw [if_pos e, e, pk_us]
    · rw [if_neg e, pk_un e]
      exact t2 i (by omega)
theorem app_c (L l : List Int32) (b : Int32) : L ++ [b] ++ l = L ++ b :: l := by rw [List.append_assoc]; rfl
theorem len_c (L : List Int32) (b : Int32) : (L ++ [b]).length = L.length + 1 := by rw [List.length_append]; rfl
/-- voices, by kinds: the answer, the bodies -/
def pB (K : Int32) (c : Nat) (x : Int32) : Int32 × List Int32 := if c = 1 then (x + K - 9, [20, 10]) else if c = 4 then ((x + K - 9) * 3, [50, 20, 10]) else if c = 6 then (6, [70]) else (x + K, [10])
def pT0 (K : Int32) (t : Nat) (x : Int32) : Int32 × List Int32 := ((pB K t x).1 * 2, 11 :: (pB K t x).2)
def pT (K M : Int32) (t c : Nat) (x : Int32) : Int32 × List Int32 := if c = 2 then (0 - (pT0 K t x).1, 30 :: (pT0 K t x).2) else if c = 5 then (0 - (pT0 K t (x + 1)).1, 60 :: 30 :: (pT0 K t (x + 1)).2) else if c = 6 then ((pT0 K t x).1 + M, 71 :: (pT0 K t x).2) else pT0 K t x
def pI0 (K M : Int32) (t : Nat) (x : Int32) : Int32 × List Int32 := ((pT K M t t x).1 - M, 12 :: (pT K M t t x).2)
def pI (K M : Int32) (t c : Nat) (x : Int32) : Int32 × List Int32 := if c = 3 then ((pI0 K M t (x / 2)).1, 40 :: (pI0 K M t (x / 2)).2) else if c = 4 then ((pI0 K M t x).1 ^^^ K, 51 :: (pI0 K M t x).2) else pI0 K M t x
theorem pB_l (K : Int32) (c : Nat) (x : Int32) : (pB K c x).2.length ≤ 3 := by
  unfold pB
  split
  · show 2 ≤ 3
    decide
  · split
    · show 3 ≤ 3
      decide
    · split
      · show 1 ≤ 3
        decide
      · show 1 ≤ 3
        decide
theorem pT0_l (K : Int32) (t : Nat) (x : Int32) : (pT0 K t x).2.length ≤ 4 := by
  have := pB_l K t x
  show (pB K t x).2.length + 1 ≤ 4
  omega
theorem pT_l (K M : Int32) (t c : Nat) (x : Int32) : (pT K M t c x).2.length ≤ 6 := by
  have h1 := pT0_l K t x
  have h2 := pT0_l K t (x + 1)
  unfold pT
  split
  · show (pT0 K t x).2.length + 1 ≤ 6
    omega
  · split
    · show (pT0 K t (x + 1)).2.length + 1 + 1 ≤ 6
      omega
    · split
      · show (pT0 K t x).2.length + 1 ≤ 6
        omega
      · omega
theorem ab1 : kAb.getD (1 : Int32).toNatClampNeg 0 = nI 0 := by decide
theorem ab2 : kAb.getD (2 : Int32).toNatClampNeg 0 = nI 0 := by decide
theorem ab3 : kAb.getD (3 : Int32).toNatClampNeg 0 = nI 0 := by decide
theorem ab4 : kAb.getD (4 : Int32).toNatClampNeg 0 = nI 1 := by decide
theorem ab5 : kAb.getD (5 : Int32).toNatClampNeg 0 = nI 2 := by decide
theorem ab6 : kAb.getD (6 : Int32).toNatClampNeg 0 = nI 0 := by decide
theorem sg_X5_speak_0 {G : kG} {d : Nat} {Q : Int32 → kM → Prop}  {a1 : Int32} {a2 : Int32} {a3 : Int32} {a4 : Int32} {h : kM} (hd : 4 ≤ d)  (H :
    (((40 : Int32) < a4 →
      Q (0 : Int32) h
    ) ∧ (¬ ((40 : Int32) < a4) →
      (((h 76 2) = 0 →
        Cal G (d - 1) m_X5_bodyFrom [.int a1, .int a2] h (fun x3 h4 =>
          Cal G (d - 1) m_X5_begin [.ref 76, .int x3] h4 (fun x5 h6 =>
            ((x3 = (10 : Int32) →
              Q (a3 + (h6 76 5)) h6
            ) ∧ (¬ x3 = (10 : Int32) →
            ((x3 = (11 : Int32) →
              Cal G (d - 1) m_X5_speak [.ref 76, .int (0 : Int32), .int (h6 76 3), .int a3, .int (a4 + (1 : Int32))] h6 (fun x8 h9 =>
                Q (x8 * (2 : Int32)) h9
              )
            ) ∧ (¬ x3 = (11 : Int32) →
            ((x3 = (12 : Int32) →
              Cal G (d - 1) m_X5_speak [.ref 76, .int (1 : Int32), .int (h6 76 3), .int a3, .int (a4 + (1 : Int32))] h6 (fun x11 h12 =>
                Q (x11 - (h12 76 4)) h12
              )
            ) ∧ (¬ x3 = (12 : Int32) →
            ((x3 = (13 : Int32) →
              Cal G (d - 1) m_X5_partedBy [.ref 76, .int a3, .int ((h6 76 4) - (h6 76 5))] h6 (fun x14 h15 =>
                Q x14 h15
              )
            ) ∧ (¬ x3 = (13 : Int32) →
            ((x3 = (20 : Int32) →
              Cal G (d - 1) m_X5_speak [.ref 76, .int (0 : Int32), .int (kAb.getD ((1 : Int32)).toNatClampNeg 0), .int a3, .int (a4 + (1 : Int32))] h6 (fun x17 h18 =>
                Q (x17 - (9 : Int32)) h18
              )
            ) ∧ (¬ x3 = (20 : Int32) →
            ((x3 = (21 : Int32) →
              Cal G (d - 1) m_X5_speak [.ref 76, .int (3 : Int32), .int (kAb.getD ((1 : Int32)).toNatClampNeg 0), .int a3, .int (a4 + (1 : Int32))] h6 (fun x20 h21 =>
                Cal G (d - 1) m_X5_speak [.ref 76, .int (1 : Int32), .int (h21 76 3), .int (1 : Int32), .int (a4 + (1 : Int32))] h21 (fun x22 h23 =>
                  Q (x20 + x22) h23
                )
              )
            ) ∧ (¬ x3 = (21 : Int32) →
            ((x3 = (30 : Int32) →
              Cal G (d - 1) m_X5_speak [.ref 76, .int (1 : Int32), .int (kAb.getD ((2 : Int32)).toNatClampNeg 0), .int a3, .int (a4 + (1 : Int32))] h6 (fun x25 h26 =>
                Q ((0 : Int32) - x25) h26
              )
            ) ∧ (¬ x3 = (30 : Int32) →
            ((x3 = (40 : Int32) →
              Cal G (d - 1) m_X5_speak [.ref 76, .int (2 : Int32), .int (kAb.getD ((3 : Int32)).toNatClampNeg 0), .int (a3 / (2 : Int32)), .int (a4 + (1 : Int32))] h6 (fun x28 h29 =>
                Q x28 h29
              )
            ) ∧ (¬ x3 = (40 : Int32) →
            ((x3 = (50 : Int32) →
              Cal G (d - 1) m_X5_speak [.ref 76, .int (0 : Int32), .int (kAb.getD ((4 : Int32)).toNatClampNeg 0), .int a3, .int (a4 + (1 : Int32))] h6 (fun x31 h32 =>
                Q (x31 * (3 : Int32)) h32
              )
            ) ∧ (¬ x3 = (50 : Int32) →
            ((x3 = (51 : Int32) →
              Cal G (d - 1) m_X5_speak [.ref 76, .int (2 : Int32), .int (kAb.getD ((4 : Int32)).toNatClampNeg 0), .int a3, .int (a4 + (1 : Int32))] h6 (fun x34 h35 =>
                Q (x34 ^^^ (h35 76 5)) h35
              )
            ) ∧ (¬ x3 = (51 : Int32) →
            ((x3 = (60 : Int32) →
              Cal G (d - 1) m_X5_speak [.ref 76, .int (1 : Int32), .int (kAb.getD ((5 : Int32)).toNatClampNeg 0), .int (a3 + (1 : Int32)), .int (a4 + (1 : Int32))] h6 (fun x37 h38 =>
                Q x37 h38
              )
            ) ∧ (¬ x3 = (60 : Int32) →
            ((x3 = (70 : Int32) →
              Q (6 : Int32) h6
            ) ∧ (¬ x3 = (70 : Int32) →
            ((x3 = (71 : Int32) →
              Cal G (d - 1) m_X5_speak [.ref 76, .int (1 : Int32), .int (kAb.getD ((6 : Int32)).toNatClampNeg 0), .int a3, .int (a4 + (1 : Int32))] h6 (fun x41 h42 =>
                Q (x41 + (h42 76 4)) h42
              )
            ) ∧ (¬ x3 = (71 : Int32) →
              Q (0 : Int32) h6
            ))))))))))))))))))))))))))
          )
        )
      ) ∧ (¬ ((h 76 2) = 0) →
        Q (0 : Int32) h
      ))
    ))) : Wp G d m_X5_speak (kEo G d m_X5_speak Q) 0 [.ref 76, .int a1, .int a2, .int a3, .int a4, .null, .null] [] h := by
  refine wp_iload 2 dX5_speak_0 rfl rfl ?_
  refine wp_bipush (40 : Int32) 4 dX5_speak_2 kbipush_40 rfl ?_
  refine wp_icmp_gt 14 7 dX5_speak_4 rfl rfl ⟨fun c1 => ?_, fun c1 => ?_⟩
  · replace H := H.1 c1
    refine wp_iconst (0 : Int32) 15 dX5_speak_14 kiconst_0 rfl ?_
    exact wp_reti dX5_speak_15 rfl H
  · replace H := H.2 c1
    refine wp_aload_n 8 dX5_speak_7 rfl rfl ?_
    refine wp_getI 11 dX5_speak_8 rfl fl_X5_25 kd_76 rfl ?_
    refine wp_if_eq 16 14 dX5_speak_11 rfl rfl ⟨fun c2 => ?_, fun c2 => ?_⟩
    · replace H := H.1 c2
      refine wp_iload_n 17 dX5_speak_16 rfl rfl ?_
      refine wp_iload_n 18 dX5_speak_17 rfl rfl ?_
      refine wp_cS (d - 1) 2 [.int a1, .int a2] [] 21 dX5_speak_18 rfl (lk_X5_46 rfl) (by omega) rfl rfl (Nat.le_of_ble_eq_true rfl) (H.mono (fun x3 h4 H => ?_))
      refine wp_istore 23 dX5_speak_21 rfl (Nat.le_of_ble_eq_true rfl) rfl ?_
      refine wp_iload 25 dX5_speak_23 rfl rfl ?_
      refine wp_iconst (1 : Int32) 26 dX5_speak_25 kiconst_1 rfl ?_
      refine wp_iadd 27 dX5_speak_26 rfl ?_
      refine wp_istore 29 dX5_speak_27 rfl (Nat.le_of_ble_eq_true rfl) rfl ?_
      refine wp_aload_n 30 dX5_speak_29 rfl rfl ?_
      refine wp_iload 32 dX5_speak_30 rfl rfl ?_
      refine wp_cV (d - 1) 1 [.int x3] [] 35 dX5_speak_32 rfl (lk_X5_50 rfl) (by omega) kd_76 rfl rfl rfl (Nat.le_of_ble_eq_true rfl) (H.mono (fun x5 h6 H => ?_))
      refine wp_iload 37 dX5_speak_35 rfl rfl ?_
      refine wp_lookup 357 [((10 : Int32), 152), ((11 : Int32), 159), ((12 : Int32), 174), ((13 : Int32), 192), ((20 : Int32), 207), ((21 : Int32), 224), ((30 : Int32), 251), ((40 : Int32), 267), ((50 : Int32), 283), ((51 : Int32), 299), ((60 : Int32), 318), ((70 : Int32), 334), ((71 : Int32), 337)] dX5_speak_37 (by decide) rfl (by decide) ?_
      refine ⟨fun c7 => ?_, fun c7 => ?_⟩
      · replace H := H.1 c7
        refine wp_iload_n 153 dX5_speak_152 rfl rfl ?_
        refine wp_aload_n 154 dX5_speak_153 rfl rfl ?_
        refine wp_getI 157 dX5_speak_154 rfl fl_X5_22 kd_76 rfl ?_
        refine wp_iadd 158 dX5_speak_157 rfl ?_
        exact wp_reti dX5_speak_158 rfl H
      · replace H := H.2 c7
        refine ⟨fun c10 => ?_, fun c10 => ?_⟩
        · replace H := H.1 c10
          refine wp_aload_n 160 dX5_speak_159 rfl rfl ?_
          refine wp_iconst (0 : Int32) 161 dX5_speak_160 kiconst_0 rfl ?_
          refine wp_aload_n 162 dX5_speak_161 rfl rfl ?_
          refine wp_getI 165 dX5_speak_162 rfl fl_X5_15 kd_76 rfl ?_
          refine wp_iload_n 166 dX5_speak_165 rfl rfl ?_
          refine wp_iload 168 dX5_speak_166 rfl rfl ?_
          refine wp_cV (d - 1) 4 [.int (0 : Int32), .int (h6 76 3), .int a3, .int (a4 + (1 : Int32))] [] 171 dX5_speak_168 rfl (lk_X5_32 rfl) (by omega) kd_76 rfl rfl rfl (Nat.le_of_ble_eq_true rfl) (H.mono (fun x8 h9 H => ?_))
          refine wp_iconst (2 : Int32) 172 dX5_speak_171 kiconst_2 rfl ?_
          refine wp_imul 173 dX5_speak_172 rfl ?_
          exact wp_reti dX5_speak_173 rfl H
        · replace H := H.2 c10
          refine ⟨fun c13 => ?_, fun c13 => ?_⟩
          · replace H := H.1 c13
            refine wp_aload_n 175 dX5_speak_174 rfl rfl ?_
            refine wp_iconst (1 : Int32) 176 dX5_speak_175 kiconst_1 rfl ?_
            refine wp_aload_n 177 dX5_speak_176 rfl rfl ?_
            refine wp_getI 180 dX5_speak_177 rfl fl_X5_15 kd_76 rfl ?_
            refine wp_iload_n 181 dX5_speak_180 rfl rfl ?_
            refine wp_iload 183 dX5_speak_181 rfl rfl ?_
            refine wp_cV (d - 1) 4 [.int (1 : Int32), .int (h6 76 3), .int a3, .int (a4 + (1 : Int32))] [] 186 dX5_speak_183 rfl (lk_X5_32 rfl) (by omega) kd_76 rfl rfl rfl (Nat.le_of_ble_eq_true rfl) (H.mono (fun x11 h12 H => ?_))
            refine wp_aload_n 187 dX5_speak_186 rfl rfl ?_
            refine wp_getI 190 dX5_speak_187 rfl fl_X5_19 kd_76 rfl ?_
            refine wp_isub 191 dX5_speak_190 rfl ?_
            exact wp_reti dX5_speak_191 rfl H
          · replace H := H.2 c13
            refine ⟨fun c16 => ?_, fun c16 => ?_⟩
            · replace H := H.1 c16
              refine wp_aload_n 193 dX5_speak_192 rfl rfl ?_
              refine wp_iload_n 194 dX5_speak_193 rfl rfl ?_
              refine wp_aload_n 195 dX5_speak_194 rfl rfl ?_
              refine wp_getI 198 dX5_speak_195 rfl fl_X5_19 kd_76 rfl ?_
              refine wp_aload_n 199 dX5_speak_198 rfl rfl ?_
              refine wp_getI 202 dX5_speak_199 rfl fl_X5_22 kd_76 rfl ?_
              refine wp_isub 203 dX5_speak_202 rfl ?_
              refine wp_cV (d - 1) 2 [.int a3, .int ((h6 76 4) - (h6 76 5))] [] 206 dX5_speak_203 rfl (lk_X5_54 rfl) (by omega) kd_76 rfl rfl rfl (Nat.le_of_ble_eq_true rfl) (H.mono (fun x14 h15 H => ?_))
              exact wp_reti dX5_speak_206 rfl H
            · replace H := H.2 c16
              refine ⟨fun c19 => ?_, fun c19 => ?_⟩
              · replace H := H.1 c19
                refine wp_aload_n 208 dX5_speak_207 rfl rfl ?_
                refine wp_iconst (0 : Int32) 209 dX5_speak_208 kiconst_0 rfl ?_
                refine wp_getsAN 212 dX5_speak_209 rfl gs_X5_43 ?_
                refine wp_iconst (1 : Int32) 213 dX5_speak_212 kiconst_1 rfl ?_
                refine wp_ialdA 214 dX5_speak_213 rfl (by unfold vp_in; decide) ?_
                refine wp_iload_n 215 dX5_speak_214 rfl rfl ?_
                refine wp_iload 217 dX5_speak_215 rfl rfl ?_
                refine wp_cV (d - 1) 4 [.int (0 : Int32), .int (kAb.getD ((1 : Int32)).toNatClampNeg 0), .int a3, .int (a4 + (1 : Int32))] [] 220 dX5_speak_217 rfl (lk_X5_32 rfl) (by omega) kd_76 rfl rfl rfl (Nat.le_of_ble_eq_true rfl) (H.mono (fun x17 h18 H => ?_))
                refine wp_bipush (9 : Int32) 222 dX5_speak_220 kbipush_9 rfl ?_
                refine wp_isub 223 dX5_speak_222 rfl ?_
                exact wp_reti dX5_speak_223 rfl H
              · replace H := H.2 c19
                refine ⟨fun c24 => ?_, fun c24 => ?_⟩
                · replace H := H.1 c24
                  refine wp_aload_n 225 dX5_speak_224 rfl rfl ?_
                  refine wp_iconst (3 : Int32) 226 dX5_speak_225 kiconst_3 rfl ?_
                  refine wp_getsAN 229 dX5_speak_226 rfl gs_X5_43 ?_
                  refine wp_iconst (1 : Int32) 230 dX5_speak_229 kiconst_1 rfl ?_
                  refine wp_ialdA 231 dX5_speak_230 rfl (by unfold vp_in; decide) ?_
                  refine wp_iload_n 232 dX5_speak_231 rfl rfl ?_
                  refine wp_iload 234 dX5_speak_232 rfl rfl ?_
                  refine wp_cV (d - 1) 4 [.int (3 : Int32), .int (kAb.getD ((1 : Int32)).toNatClampNeg 0), .int a3, .int (a4 + (1 : Int32))] [] 237 dX5_speak_234 rfl (lk_X5_32 rfl) (by omega) kd_76 rfl rfl rfl (Nat.le_of_ble_eq_true rfl) (H.mono (fun x20 h21 H => ?_))
                  refine wp_aload_n 238 dX5_speak_237 rfl rfl ?_
                  refine wp_iconst (1 : Int32) 239 dX5_speak_238 kiconst_1 rfl ?_
                  refine wp_aload_n 240 dX5_speak_239 rfl rfl ?_
                  refine wp_getI 243 dX5_speak_240 rfl fl_X5_15 kd_76 rfl ?_
                  refine wp_iconst (1 : Int32) 244 dX5_speak_243 kiconst_1 rfl ?_
                  refine wp_iload 246 dX5_speak_244 rfl rfl ?_
                  refine wp_cV (d - 1) 4 [.int (1 : Int32), .int (h21 76 3), .int (1 : Int32), .int (a4 + (1 : Int32))] [.int x20] 249 dX5_speak_246 rfl (lk_X5_32 rfl) (by omega) kd_76 rfl rfl rfl (Nat.le_of_ble_eq_true rfl) (H.mono (fun x22 h23 H => ?_))
                  refine wp_iadd 250 dX5_speak_249 rfl ?_
                  exact wp_reti dX5_speak_250 rfl H
                · replace H := H.2 c24
                  refine ⟨fun c27 => ?_, fun c27 => ?_⟩
                  · replace H := H.1 c27
                    refine wp_iconst (0 : Int32) 252 dX5_speak_251 kiconst_0 rfl ?_
                    refine wp_aload_n 253 dX5_speak_252 rfl rfl ?_
                    refine wp_iconst (1 : Int32) 254 dX5_speak_253 kiconst_1 rfl ?_
                    refine wp_getsAN 257 dX5_speak_254 rfl gs_X5_43 ?_
                    refine wp_iconst (2 : Int32) 258 dX5_speak_257 kiconst_2 rfl ?_
                    refine wp_ialdA 259 dX5_speak_258 rfl (by unfold vp_in; decide) ?_
                    refine wp_iload_n 260 dX5_speak_259 rfl rfl ?_
                    refine wp_iload 262 dX5_speak_260 rfl rfl ?_
                    refine wp_cV (d - 1) 4 [.int (1 : Int32), .int (kAb.getD ((2 : Int32)).toNatClampNeg 0), .int a3, .int (a4 + (1 : Int32))] [.int (0 : Int32)] 265 dX5_speak_262 rfl (lk_X5_32 rfl) (by omega) kd_76 rfl rfl rfl (Nat.le_of_ble_eq_true rfl) (H.mono (fun x25 h26 H => ?_))
                    refine wp_isub 266 dX5_speak_265 rfl ?_
                    exact wp_reti dX5_speak_266 rfl H
                  · replace H := H.2 c27
                    refine ⟨fun c30 => ?_, fun c30 => ?_⟩
                    · replace H := H.1 c30
                      refine wp_aload_n 268 dX5_speak_267 rfl rfl ?_
                      refine wp_iconst (2 : Int32) 269 dX5_speak_268 kiconst_2 rfl ?_
                      refine wp_getsAN 272 dX5_speak_269 rfl gs_X5_43 ?_
                      refine wp_iconst (3 : Int32) 273 dX5_speak_272 kiconst_3 rfl ?_
                      refine wp_ialdA 274 dX5_speak_273 rfl (by unfold vp_in; decide) ?_
                      refine wp_iload_n 275 dX5_speak_274 rfl rfl ?_
                      refine wp_iconst (2 : Int32) 276 dX5_speak_275 kiconst_2 rfl ?_
                      refine wp_idiv 277 dX5_speak_276 (by decide) rfl ?_
                      refine wp_iload 279 dX5_speak_277 rfl rfl ?_
                      refine wp_cV (d - 1) 4 [.int (2 : Int32), .int (kAb.getD ((3 : Int32)).toNatClampNeg 0), .int (a3 / (2 : Int32)), .int (a4 + (1 : Int32))] [] 282 dX5_speak_279 rfl (lk_X5_32 rfl) (by omega) kd_76 rfl rfl rfl (Nat.le_of_ble_eq_true rfl) (H.mono (fun x28 h29 H => ?_))
                      exact wp_reti dX5_speak_282 rfl H
                    · replace H := H.2 c30
                      refine ⟨fun c33 => ?_, fun c33 => ?_⟩
                      · replace H := H.1 c33
                        refine wp_aload_n 284 dX5_speak_283 rfl rfl ?_
                        refine wp_iconst (0 : Int32) 285 dX5_speak_284 kiconst_0 rfl ?_
                        refine wp_getsAN 288 dX5_speak_285 rfl gs_X5_43 ?_
                        refine wp_iconst (4 : Int32) 289 dX5_speak_288 kiconst_4 rfl ?_
                        refine wp_ialdA 290 dX5_speak_289 rfl (by unfold vp_in; decide) ?_
                        refine wp_iload_n 291 dX5_speak_290 rfl rfl ?_
                        refine wp_iload 293 dX5_speak_291 rfl rfl ?_
                        refine wp_cV (d - 1) 4 [.int (0 : Int32), .int (kAb.getD ((4 : Int32)).toNatClampNeg 0), .int a3, .int (a4 + (1 : Int32))] [] 296 dX5_speak_293 rfl (lk_X5_32 rfl) (by omega) kd_76 rfl rfl rfl (Nat.le_of_ble_eq_true rfl) (H.mono (fun x31 h32 H => ?_))
                        refine wp_iconst (3 : Int32) 297 dX5_speak_296 kiconst_3 rfl ?_
                        refine wp_imul 298 dX5_speak_297 rfl ?_
                        exact wp_reti dX5_speak_298 rfl H
                      · replace H := H.2 c33
                        refine ⟨fun c36 => ?_, fun c36 => ?_⟩
                        · replace H := H.1 c36
                          refine wp_aload_n 300 dX5_speak_299 rfl rfl ?_
                          refine wp_iconst (2 : Int32) 301 dX5_speak_300 kiconst_2 rfl ?_
                          refine wp_getsAN 304 dX5_speak_301 rfl gs_X5_43 ?_
                          refine wp_iconst (4 : Int32) 305 dX5_speak_304 kiconst_4 rfl ?_
                          refine wp_ialdA 306 dX5_speak_305 rfl (by unfold vp_in; decide) ?_
                          refine wp_iload_n 307 dX5_speak_306 rfl rfl ?_
                          refine wp_iload 309 dX5_speak_307 rfl rfl ?_
                          refine wp_cV (d - 1) 4 [.int (2 : Int32), .int (kAb.getD ((4 : Int32)).toNatClampNeg 0), .int a3, .int (a4 + (1 : Int32))] [] 312 dX5_speak_309 rfl (lk_X5_32 rfl) (by omega) kd_76 rfl rfl rfl (Nat.le_of_ble_eq_true rfl) (H.mono (fun x34 h35 H => ?_))
                          refine wp_aload_n 313 dX5_speak_312 rfl rfl ?_
                          refine wp_getI 316 dX5_speak_313 rfl fl_X5_22 kd_76 rfl ?_
                          refine wp_ixor 317 dX5_speak_316 rfl ?_
                          exact wp_reti dX5_speak_317 rfl H
                        · replace H := H.2 c36
                          refine ⟨fun c39 => ?_, fun c39 => ?_⟩
                          · replace H := H.1 c39
                            refine wp_aload_n 319 dX5_speak_318 rfl rfl ?_
                            refine wp_iconst (1 : Int32) 320 dX5_speak_319 kiconst_1 rfl ?_
                            refine wp_getsAN 323 dX5_speak_320 rfl gs_X5_43 ?_
                            refine wp_iconst (5 : Int32) 324 dX5_speak_323 kiconst_5 rfl ?_
                            refine wp_ialdA 325 dX5_speak_324 rfl (by unfold vp_in; decide) ?_
                            refine wp_iload_n 326 dX5_speak_325 rfl rfl ?_
                            refine wp_iconst (1 : Int32) 327 dX5_speak_326 kiconst_1 rfl ?_
                            refine wp_iadd 328 dX5_speak_327 rfl ?_
                            refine wp_iload 330 dX5_speak_328 rfl rfl ?_
                            refine wp_cV (d - 1) 4 [.int (1 : Int32), .int (kAb.getD ((5 : Int32)).toNatClampNeg 0), .int (a3 + (1 : Int32)), .int (a4 + (1 : Int32))] [] 333 dX5_speak_330 rfl (lk_X5_32 rfl) (by omega) kd_76 rfl rfl rfl (Nat.le_of_ble_eq_true rfl) (H.mono (fun x37 h38 H => ?_))
                            exact wp_reti dX5_speak_333 rfl H
                          · replace H := H.2 c39
                            refine ⟨fun c40 => ?_, fun c40 => ?_⟩
                            · replace H := H.1 c40
                              refine wp_bipush (6 : Int32) 336 dX5_speak_334 kbipush_6 rfl ?_
                              exact wp_reti dX5_speak_336 rfl H
                            · replace H := H.2 c40
                              refine ⟨fun c43 => ?_, fun c43 => ?_⟩
                              · replace H := H.1 c43
                                refine wp_aload_n 338 dX5_speak_337 rfl rfl ?_
                                refine wp_iconst (1 : Int32) 339 dX5_speak_338 kiconst_1 rfl ?_
                                refine wp_getsAN 342 dX5_speak_339 rfl gs_X5_43 ?_
                                refine wp_bipush (6 : Int32) 344 dX5_speak_342 kbipush_6 rfl ?_
                                refine wp_ialdA 345 dX5_speak_344 rfl (by unfold vp_in; decide) ?_
                                refine wp_iload_n 346 dX5_speak_345 rfl rfl ?_
                                refine wp_iload 348 dX5_speak_346 rfl rfl ?_
                                refine wp_cV (d - 1) 4 [.int (1 : Int32), .int (kAb.getD ((6 : Int32)).toNatClampNeg 0), .int a3, .int (a4 + (1 : Int32))] [] 351 dX5_speak_348 rfl (lk_X5_32 rfl) (by omega) kd_76 rfl rfl rfl (Nat.le_of_ble_eq_true rfl) (H.mono (fun x41 h42 H => ?_))
                                refine wp_aload_n 352 dX5_speak_351 rfl rfl ?_
                                refine wp_getI 355 dX5_speak_352 rfl fl_X5_19 kd_76 rfl ?_
                                refine wp_iadd 356 dX5_speak_355 rfl ?_
                                exact wp_reti dX5_speak_356 rfl H
                              · replace H := H.2 c43
                                show Wp _ _ _ _ _ _ _ _
                                refine wp_iconst (0 : Int32) 358 dX5_speak_357 kiconst_0 rfl ?_
                                exact wp_reti dX5_speak_358 rfl H
    · replace H := H.2 c2
      refine wp_iconst (0 : Int32) 15 dX5_speak_14 kiconst_0 rfl ?_
      exact wp_reti dX5_speak_15 rfl H

theorem cg_X5_speak {G : kG} {d : Nat} {Q : Int32 → kM → Prop}  {a1 : Int32} {a2 : Int32} {a3 : Int32} {a4 : Int32} {h : kM} (hd : 4 ≤ d)  (H :
    (((40 : Int32) < a4 →
      Q (0 : Int32) h
    ) ∧ (¬ ((40 : Int32) < a4) →
      (((h 76 2) = 0 →
        Cal G (d - 1) m_X5_bodyFrom [.int a1, .int a2] h (fun x3 h4 =>
          Cal G (d - 1) m_X5_begin [.ref 76, .int x3] h4 (fun x5 h6 =>
            ((x3 = (10 : Int32) →
              Q (a3 + (h6 76 5)) h6
            ) ∧ (¬ x3 = (10 : Int32) →
            ((x3 = (11 : Int32) →
              Cal G (d - 1) m_X5_speak [.ref 76, .int (0 : Int32), .int (h6 76 3), .int a3, .int (a4 + (1 : Int32))] h6 (fun x8 h9 =>
                Q (x8 * (2 : Int32)) h9
              )
            ) ∧ (¬ x3 = (11 : Int32) →
            ((x3 = (12 : Int32) →
              Cal G (d - 1) m_X5_speak [.ref 76, .int (1 : Int32), .int (h6 76 3), .int a3, .int (a4 + (1 : Int32))] h6 (fun x11 h12 =>
                Q (x11 - (h12 76 4)) h12
              )
            ) ∧ (¬ x3 = (12 : Int32) →
            ((x3 = (13 : Int32) →
              Cal G (d - 1) m_X5_partedBy [.ref 76, .int a3, .int ((h6 76 4) - (h6 76 5))] h6 (fun x14 h15 =>
                Q x14 h15
              )
            ) ∧ (¬ x3 = (13 : Int32) →
            ((x3 = (20 : Int32) →
              Cal G (d - 1) m_X5_speak [.ref 76, .int (0 : Int32), .int (kAb.getD ((1 : Int32)).toNatClampNeg 0), .int a3, .int (a4 + (1 : Int32))] h6 (fun x17 h18 =>
                Q (x17 - (9 : Int32)) h18
              )
            ) ∧ (¬ x3 = (20 : Int32) →
            ((x3 = (21 : Int32) →
              Cal G (d - 1) m_X5_speak [.ref 76, .int (3 : Int32), .int (kAb.getD ((1 : Int32)).toNatClampNeg 0), .int a3, .int (a4 + (1 : Int32))] h6 (fun x20 h21 =>
                Cal G (d - 1) m_X5_speak [.ref 76, .int (1 : Int32), .int (h21 76 3), .int (1 : Int32), .int (a4 + (1 : Int32))] h21 (fun x22 h23 =>
                  Q (x20 + x22) h23
                )
              )
            ) ∧ (¬ x3 = (21 : Int32) →
            ((x3 = (30 : Int32) →
              Cal G (d - 1) m_X5_speak [.ref 76, .int (1 : Int32), .int (kAb.getD ((2 : Int32)).toNatClampNeg 0), .int a3, .int (a4 + (1 : Int32))] h6 (fun x25 h26 =>
                Q ((0 : Int32) - x25) h26
              )
            ) ∧ (¬ x3 = (30 : Int32) →
            ((x3 = (40 : Int32) →
              Cal G (d - 1) m_X5_speak [.ref 76, .int (2 : Int32), .int (kAb.getD ((3 : Int32)).toNatClampNeg 0), .int (a3 / (2 : Int32)), .int (a4 + (1 : Int32))] h6 (fun x28 h29 =>
                Q x28 h29
              )
            ) ∧ (¬ x3 = (40 : Int32) →
            ((x3 = (50 : Int32) →
              Cal G (d - 1) m_X5_speak [.ref 76, .int (0 : Int32), .int (kAb.getD ((4 : Int32)).toNatClampNeg 0), .int a3, .int (a4 + (1 : Int32))] h6 (fun x31 h32 =>
                Q (x31 * (3 : Int32)) h32
              )
            ) ∧ (¬ x3 = (50 : Int32) →
            ((x3 = (51 : Int32) →
              Cal G (d - 1) m_X5_speak [.ref 76, .int (2 : Int32), .int (kAb.getD ((4 : Int32)).toNatClampNeg 0), .int a3, .int (a4 + (1 : Int32))] h6 (fun x34 h35 =>
                Q (x34 ^^^ (h35 76 5)) h35
              )
            ) ∧ (¬ x3 = (51 : Int32) →
            ((x3 = (60 : Int32) →
              Cal G (d - 1) m_X5_speak [.ref 76, .int (1 : Int32), .int (kAb.getD ((5 : Int32)).toNatClampNeg 0), .int (a3 + (1 : Int32)), .int (a4 + (1 : Int32))] h6 (fun x37 h38 =>
                Q x37 h38
              )
            ) ∧ (¬ x3 = (60 : Int32) →
            ((x3 = (70 : Int32) →
              Q (6 : Int32) h6
            ) ∧ (¬ x3 = (70 : Int32) →
            ((x3 = (71 : Int32) →
              Cal G (d - 1) m_X5_speak [.ref 76, .int (1 : Int32), .int (kAb.getD ((6 : Int32)).toNatClampNeg 0), .int a3, .int (a4 + (1 : Int32))] h6 (fun x41 h42 =>
                Q (x41 + (h42 76 4)) h42
              )
            ) ∧ (¬ x3 = (71 : Int32) →
              Q (0 : Int32) h6
            ))))))))))))))))))))))))))
          )
        )
      ) ∧ (¬ ((h 76 2) = 0) →
        Q (0 : Int32) h
      ))
    ))) : Cal G d m_X5_speak [.ref 76, .int a1, .int a2, .int a3, .int a4] h Q :=
  Cal.of [.ref 76, .int a1, .int a2, .int a3, .int a4, .null, .null] (by decide +kernel) (Nat.le_of_ble_eq_true rfl) rfl (sg_X5_speak_0 hd  H)

theorem cB0 (hd : 4 ≤ d) {c : Nat} (hc : c = 0 ∨ c = 2 ∨ c = 3 ∨ c = 5) {t e : Nat} {x M K : Int32} {L : List Int32} (he : e ≤ 40 - 0) (hp : kSp t M K h) (hT : kTc L h) (hl : L.length + 1 ≤ 30) (k : ∀ h1, kTc (L ++ [10]) h1 → kCf h h1 → Q (x + K) h1) : Cal G d m_X5_speak [.ref 76, .int (nI 0), .int (nI c), .int x, .int (nI e)] h Q := by
  have hc7 : c < 7 := by omega
  have hb : kBdF 0 7 c = 10 := by
    rcases hc with rfl | rfl | rfl | rfl <;> decide
  refine cg_X5_speak (by omega) ⟨fun z => absurd z (len (nI_le (b := 40) (show e ≤ 40 by omega) (by decide))), fun _ => ⟨fun _ => ?_, fun z => absurd hp.1 z⟩⟩
  refine sp_X5_bodyFrom (d := d - 1) (v := 0) (by omega) (by decide) hc7 ?_
  rw [hb]
  refine sp_X5_begin (d := d - 1) (by omega) hT (by omega) (fun h6 T6 f6 => ?_)
  have p6 := hp.f f6
  refine ⟨fun _ => ?_, fun z => absurd rfl z⟩
  rw [p6.2.2.2]
  exact k h6 T6 f6
theorem cB1 (hd : 5 ≤ d) {c : Nat} (hc : c = 1) {t e : Nat} {x M K : Int32} {L : List Int32} (he : e ≤ 40 - 1) (hp : kSp t M K h) (hT : kTc L h) (hl : L.length + 2 ≤ 30) (k : ∀ h1, kTc (L ++ [20, 10]) h1 → kCf h h1 → Q (x + K - 9) h1) : Cal G d m_X5_speak [.ref 76, .int (nI 0), .int (nI c), .int x, .int (nI e)] h Q := by
  have hc7 : c < 7 := by omega
  have hb : kBdF 0 7 c = 20 := by
    subst hc
    decide
  refine cg_X5_speak (by omega) ⟨fun z => absurd z (len (nI_le (b := 40) (show e ≤ 40 by omega) (by decide))), fun _ => ⟨fun _ => ?_, fun z => absurd hp.1 z⟩⟩
  refine sp_X5_bodyFrom (d := d - 1) (v := 0) (by omega) (by decide) hc7 ?_
  rw [hb]
  refine sp_X5_begin (d := d - 1) (by omega) hT (by omega) (fun h6 T6 f6 => ?_)
  have p6 := hp.f f6
  refine ⟨fun e => absurd e (by decide), fun _ => ⟨fun e => absurd e (by decide), fun _ => ⟨fun e => absurd e (by decide), fun _ => ⟨fun e => absurd e (by decide), fun _ => ⟨fun _ => ?_, fun z => absurd rfl z⟩⟩⟩⟩⟩
  rw [ab1, nI_1]
  refine cB0 (d := d - 1) (by omega) (Or.inl rfl) (by omega) p6 T6 (by rw [len_c]; omega) (fun h1 T1 f1 => ?_)
  rw [app_c] at T1
  exact k h1 T1 (f6.tr f1)
theorem cB4 (hd : 6 ≤ d) {c : Nat} (hc : c = 4) {t e : Nat} {x M K : Int32} {L : List Int32} (he : e ≤ 40 - 2) (hp : kSp t M K h) (hT : kTc L h) (hl : L.length + 3 ≤ 30) (k : ∀ h1, kTc (L ++ [50, 20, 10]) h1 → kCf h h1 → Q ((x + K - 9) * 3) h1) : Cal G d m_X5_speak [.ref 76, .int (nI 0), .int (nI c), .int x, .int (nI e)] h Q := by
  have hc7 : c < 7 := by omega
  have hb : kBdF 0 7 c = 50 := by
    subst hc
    decide
  refine cg_X5_speak (by omega) ⟨fun z => absurd z (len (nI_le (b := 40) (show e ≤ 40 by omega) (by decide))), fun _ => ⟨fun _ => ?_, fun z => absurd hp.1 z⟩⟩
  refine sp_X5_bodyFrom (d := d - 1) (v := 0) (by omega) (by decide) hc7 ?_
  rw [hb]
  refine sp_X5_begin (d := d - 1) (by omega) hT (by omega) (fun h6 T6 f6 => ?_)
  have p6 := hp.f f6
  refine ⟨fun e => absurd e (by decide), fun _ => ⟨fun e => absurd e (by decide), fun _ => ⟨fun e => absurd e (by decide), fun _ => ⟨fun e => absurd e (by decide), fun _ => ⟨fun e => absurd e (by decide), fun _ => ⟨fun e => absurd e (by decide), fun _ => ⟨fun e => absurd e (by decide), fun _ => ⟨fun e => absurd e (by decide), fun _ => ⟨fun _ => ?_, fun z => absurd rfl z⟩⟩⟩⟩⟩⟩⟩⟩⟩
  rw [ab4, nI_1]
  refine cB1 (d := d - 1) (by omega) rfl (by omega) p6 T6 (by rw [len_c]; omega) (fun h1 T1 f1 => ?_)
  rw [app_c] at T1
  exact k h1 T1 (f6.tr f1)
theorem cB6 (hd : 4 ≤ d) {c : Nat} (hc : c = 6) {t e : Nat} {x M K : Int32} {L : List Int32} (he : e ≤ 40 - 0) (hp : kSp t M K h) (hT : kTc L h) (hl : L.length + 1 ≤ 30) (k : ∀ h1, kTc (L ++ [70]) h1 → kCf h h1 → Q (6) h1) : Cal G d m_X5_speak [.ref 76, .int (nI 0), .int (nI c), .int x, .int (nI e)] h Q := by
  have hc7 : c < 7 := by omega
  have hb : kBdF 0 7 c = 70 := by
    subst hc
    decide
  refine cg_X5_speak (by omega) ⟨fun z => absurd z (len (nI_le (b := 40) (show e ≤ 40 by omega) (by decide))), fun _ => ⟨fun _ => ?_, fun z => absurd hp.1 z⟩⟩
  refine sp_X5_bodyFrom (d := d - 1) (v := 0) (by omega) (by decide) hc7 ?_
  rw [hb]
  refine sp_X5_begin (d := d - 1) (by omega) hT (by omega) (fun h6 T6 f6 => ?_)
  have p6 := hp.f f6
  refine ⟨fun e => absurd e (by decide), fun _ => ⟨fun e => absurd e (by decide), fun _ => ⟨fun e => absurd e (by decide), fun _ => ⟨fun e => absurd e (by decide), fun _ => ⟨fun e => absurd e (by decide), fun _ => ⟨fun e => absurd e (by decide), fun _ => ⟨fun e => absurd e (by decide), fun _ => ⟨fun e => absurd e (by decide), fun _ => ⟨fun e => absurd e (by decide), fun _ => ⟨fun e => absurd e (by decide), fun _ => ⟨fun e => absurd e (by decide), fun _ => ⟨fun _ => ?_, fun z => absurd rfl z⟩⟩⟩⟩⟩⟩⟩⟩⟩⟩⟩⟩
  exact k h6 T6 f6
theorem cB (hd : 6 ≤ d) {c : Nat} (hc : c < 7) {t e : Nat} {x M K : Int32} {L : List Int32} (he : e ≤ 40 - 2) (hp : kSp t M K h) (hT : kTc L h) (hl : L.length + 3 ≤ 30) (k : ∀ h1, kTc (L ++ (pB K c x).2) h1 → kCf h h1 → Q (pB K c x).1 h1) : Cal G d m_X5_speak [.ref 76, .int (nI 0), .int (nI c), .int x, .int (nI e)] h Q := by
  unfold pB at k
  by_cases c1 : c = 1
  · simp only [if_pos c1] at k
    exact cB1 (by omega) c1 (by omega) hp hT (by omega) k
  simp only [if_neg c1] at k
  by_cases c4 : c = 4
  · simp only [if_pos c4] at k
    exact cB4 (by omega) c4 (by omega) hp hT (by omega) k
  simp only [if_neg c4] at k
  by_cases c6 : c = 6
  · simp only [if_pos c6] at k
    exact cB6 (by omega) c6 (by omega) hp hT (by omega) k
  simp only [if_neg c6] at k
  exact cB0 (by omega) (by omega) (by omega) hp hT (by omega) k
theorem cT0 (hd : 7 ≤ d) {c : Nat} (hc : c = 0 ∨ c = 1 ∨ c = 3 ∨ c = 4) {t e : Nat} {x M K : Int32} {L : List Int32} (he : e ≤ 40 - 3) (ht : t < 7) (hp : kSp t M K h) (hT : kTc L h) (hl : L.length + 4 ≤ 30) (k : ∀ h1, kTc (L ++ (pT0 K t x).2) h1 → kCf h h1 → Q ((pT0 K t x).1) h1) : Cal G d m_X5_speak [.ref 76, .int (nI 1), .int (nI c), .int x, .int (nI e)] h Q := by
  have hc7 : c < 7 := by omega
  have hb : kBdF 1 7 c = 11 := by
    rcases hc with rfl | rfl | rfl | rfl <;> decide
  refine cg_X5_speak (by omega) ⟨fun z => absurd z (len (nI_le (b := 40) (show e ≤ 40 by omega) (by decide))), fun _ => ⟨fun _ => ?_, fun z => absurd hp.1 z⟩⟩
  refine sp_X5_bodyFrom (d := d - 1) (v := 1) (by omega) (by decide) hc7 ?_
  rw [hb]
  refine sp_X5_begin (d := d - 1) (by omega) hT (by omega) (fun h6 T6 f6 => ?_)
  have p6 := hp.f f6
  refine ⟨fun e => absurd e (by decide), fun _ => ⟨fun _ => ?_, fun z => absurd rfl z⟩⟩
  rw [p6.2.1, nI_1]
  refine cB (d := d - 1) (by omega) ht (by omega) p6 T6 (by rw [len_c]; omega) (fun h1 T1 f1 => ?_)
  rw [app_c] at T1
  exact k h1 T1 (f6.tr f1)
theorem cT2 (hd : 8 ≤ d) {c : Nat} (hc : c = 2) {t e : Nat} {x M K : Int32} {L : List Int32} (he : e ≤ 40 - 4) (ht : t < 7) (hp : kSp t M K h) (hT : kTc L h) (hl : L.length + 5 ≤ 30) (k : ∀ h1, kTc (L ++ (30 :: (pT0 K t x).2)) h1 → kCf h h1 → Q (0 - (pT0 K t x).1) h1) : Cal G d m_X5_speak [.ref 76, .int (nI 1), .int (nI c), .int x, .int (nI e)] h Q := by
  have hc7 : c < 7 := by omega
  have hb : kBdF 1 7 c = 30 := by
    subst hc
    decide
  refine cg_X5_speak (by omega) ⟨fun z => absurd z (len (nI_le (b := 40) (show e ≤ 40 by omega) (by decide))), fun _ => ⟨fun _ => ?_, fun z => absurd hp.1 z⟩⟩
  refine sp_X5_bodyFrom (d := d - 1) (v := 1) (by omega) (by decide) hc7 ?_
  rw [hb]
  refine sp_X5_begin (d := d - 1) (by omega) hT (by omega) (fun h6 T6 f6 => ?_)
  have p6 := hp.f f6
  refine ⟨fun e => absurd e (by decide), fun _ => ⟨fun e => absurd e (by decide), fun _ => ⟨fun e => absurd e (by decide), fun _ => ⟨fun e => absurd e (by decide), fun _ => ⟨fun e => absurd e (by decide), fun _ => ⟨fun e => absurd e (by decide), fun _ => ⟨fun _ => ?_, fun z => absurd rfl z⟩⟩⟩⟩⟩⟩⟩
  rw [ab2, nI_1]
  refine cT0 (d := d - 1) (by omega) (Or.inl rfl) (by omega) ht p6 T6 (by rw [len_c]; omega) (fun h1 T1 f1 => ?_)
  rw [app_c] at T1
  exact k h1 T1 (f6.tr f1)
theorem cT5 (hd : 9 ≤ d) {c : Nat} (hc : c = 5) {t e : Nat} {x M K : Int32} {L : List Int32} (he : e ≤ 40 - 5) (ht : t < 7) (hp : kSp t M K h) (hT : kTc L h) (hl : L.length + 6 ≤ 30) (k : ∀ h1, kTc (L ++ (60 :: 30 :: (pT0 K t (x + 1)).2)) h1 → kCf h h1 → Q (0 - (pT0 K t (x + 1)).1) h1) : Cal G d m_X5_speak [.ref 76, .int (nI 1), .int (nI c), .int x, .int (nI e)] h Q := by
  have hc7 : c < 7 := by omega
  have hb : kBdF 1 7 c = 60 := by
    subst hc
    decide
  refine cg_X5_speak (by omega) ⟨fun z => absurd z (len (nI_le (b := 40) (show e ≤ 40 by omega) (by decide))), fun _ => ⟨fun _ => ?_, fun z => absurd hp.1 z⟩⟩
  refine sp_X5_bodyFrom (d := d - 1) (v := 1) (by omega) (by decide) hc7 ?_
  rw [hb]
  refine sp_X5_begin (d := d - 1) (by omega) hT (by omega) (fun h6 T6 f6 => ?_)
  have p6 := hp.f f6
  refine ⟨fun e => absurd e (by decide), fun _ => ⟨fun e => absurd e (by decide), fun _ => ⟨fun e => absurd e (by decide), fun _ => ⟨fun e => absurd e (by decide), fun _ => ⟨fun e => absurd e (by decide), fun _ => ⟨fun e => absurd e (by decide), fun _ => ⟨fun e => absurd e (by decide), fun _ => ⟨fun e => absurd e (by decide), fun _ => ⟨fun e => absurd e (by decide), fun _ => ⟨fun e => absurd e (by decide), fun _ => ⟨fun _ => ?_, fun z => absurd rfl z⟩⟩⟩⟩⟩⟩⟩⟩⟩⟩⟩
  rw [ab5, nI_1]
  refine cT2 (d := d - 1) (by omega) rfl (by omega) ht p6 T6 (by rw [len_c]; omega) (fun h1 T1 f1 => ?_)
  rw [app_c] at T1
  exact k h1 T1 (f6.tr f1)
theorem cT6 (hd : 8 ≤ d) {c : Nat} (hc : c = 6) {t e : Nat} {x M K : Int32} {L : List Int32} (he : e ≤ 40 - 4) (ht : t < 7) (hp : kSp t M K h) (hT : kTc L h) (hl : L.length + 5 ≤ 30) (k : ∀ h1, kTc (L ++ (71 :: (pT0 K t x).2)) h1 → kCf h h1 → Q ((pT0 K t x).1 + M) h1) : Cal G d m_X5_speak [.ref 76, .int (nI 1), .int (nI c), .int x, .int (nI e)] h Q := by
  have hc7 : c < 7 := by omega
  have hb : kBdF 1 7 c = 71 := by
    subst hc
    decide
  refine cg_X5_speak (by omega) ⟨fun z => absurd z (len (nI_le (b := 40) (show e ≤ 40 by omega) (by decide))), fun _ => ⟨fun _ => ?_, fun z => absurd hp.1 z⟩⟩
  refine sp_X5_bodyFrom (d := d - 1) (v := 1) (by omega) (by decide) hc7 ?_
  rw [hb]
  refine sp_X5_begin (d := d - 1) (by omega) hT (by omega) (fun h6 T6 f6 => ?_)
  have p6 := hp.f f6
  refine ⟨fun e => absurd e (by decide), fun _ => ⟨fun e => absurd e (by decide), fun _ => ⟨fun e => absurd e (by decide), fun _ => ⟨fun e => absurd e (by decide), fun _ => ⟨fun e => absurd e (by decide), fun _ => ⟨fun e => absurd e (by decide), fun _ => ⟨fun e => absurd e (by decide), fun _ => ⟨fun e => absurd e (by decide), fun _ => ⟨fun e => absurd e (by decide), fun _ => ⟨fun e => absurd e (by decide), fun _ => ⟨fun e => absurd e (by decide), fun _ => ⟨fun e => absurd e (by decide), fun _ => ⟨fun _ => ?_, fun z => absurd rfl z⟩⟩⟩⟩⟩⟩⟩⟩⟩⟩⟩⟩⟩
  rw [ab6, nI_1]
  refine cT0 (d := d - 1) (by omega) (Or.inl rfl) (by omega) ht p6 T6 (by rw [len_c]; omega) (fun h1 T1 f1 => ?_)
  rw [app_c] at T1
  rw [(p6.f f1).2.2.1]
  exact k h1 T1 (f6.tr f1)
theorem cT (hd : 9 ≤ d) {c : Nat} (hc : c < 7) {t e : Nat} {x M K : Int32} {L : List Int32} (he : e ≤ 40 - 5) (ht : t < 7) (hp : kSp t M K h) (hT : kTc L h) (hl : L.length + 6 ≤ 30) (k : ∀ h1, kTc (L ++ (pT K M t c x).2) h1 → kCf h h1 → Q (pT K M t c x).1 h1) : Cal G d m_X5_speak [.ref 76, .int (nI 1), .int (nI c), .int x, .int (nI e)] h Q := by
  unfold pT at k
  by_cases c2 : c = 2
  · simp only [if_pos c2] at k
    exact cT2 (by omega) c2 (by omega) ht hp hT (by omega) k
  simp only [if_neg c2] at k
  by_cases c5 : c = 5
  · simp only [if_pos c5] at k
    exact cT5 (by omega) c5 (by omega) ht hp hT (by omega) k
  simp only [if_neg c5] at k
  by_cases c6 : c = 6
  · simp only [if_pos c6] at k
    exact cT6 (by omega) c6 (by omega) ht hp hT (by omega) k
  simp only [if_neg c6] at k
  exact cT0 (by omega) (by omega) (by omega) ht hp hT (by omega) k
theorem cI0 (hd : 10 ≤ d) {c : Nat} (hc : c = 0 ∨ c = 1 ∨ c = 2 ∨ c = 5 ∨ c = 6) {t e : Nat} {x M K : Int32} {L : List Int32} (he : e ≤ 40 - 6) (ht : t < 7) (hp : kSp t M K h) (hT : kTc L h) (hl : L.length + 7 ≤ 30) (k : ∀ h1, kTc (L ++ (pI0 K M t x).2) h1 → kCf h h1 → Q ((pI0 K M t x).1) h1) : Cal G d m_X5_speak [.ref 76, .int (nI 2), .int (nI c), .int x, .int (nI e)] h Q := by
  have hc7 : c < 7 := by omega
  have hb : kBdF 2 7 c = 12 := by
    rcases hc with rfl | rfl | rfl | rfl | rfl <;> decide
  refine cg_X5_speak (by omega) ⟨fun z => absurd z (len (nI_le (b := 40) (show e ≤ 40 by omega) (by decide))), fun _ => ⟨fun _ => ?_, fun z => absurd hp.1 z⟩⟩
  refine sp_X5_bodyFrom (d := d - 1) (v := 2) (by omega) (by decide) hc7 ?_
  rw [hb]
  refine sp_X5_begin (d := d - 1) (by omega) hT (by omega) (fun h6 T6 f6 => ?_)
  have p6 := hp.f f6
  refine ⟨fun e => absurd e (by decide), fun _ => ⟨fun e => absurd e (by decide), fun _ => ⟨fun _ => ?_, fun z => absurd rfl z⟩⟩⟩
  rw [p6.2.1, nI_1]
  refine cT (d := d - 1) (by omega) ht (by omega) ht p6 T6 (by rw [len_c]; omega) (fun h1 T1 f1 => ?_)
  rw [app_c] at T1
  rw [(p6.f f1).2.2.1]
  exact k h1 T1 (f6.tr f1)
theorem cI3 (hd : 11 ≤ d) {c : Nat} (hc : c = 3) {t e : Nat} {x M K : Int32} {L : List Int32} (he : e ≤ 40 - 7) (ht : t < 7) (hp : kSp t M K h) (hT : kTc L h) (hl : L.length + 8 ≤ 30) (k : ∀ h1, kTc (L ++ (40 :: (pI0 K M t (x / 2)).2)) h1 → kCf h h1 → Q ((pI0 K M t (x / 2)).1) h1) : Cal G d m_X5_speak [.ref 76, .int (nI 2), .int (nI c), .int x, .int (nI e)] h Q := by
  have hc7 : c < 7 := by omega
  have hb : kBdF 2 7 c = 40 := by
    subst hc
    decide
  refine cg_X5_speak (by omega) ⟨fun z => absurd z (len (nI_le (b := 40) (show e ≤ 40 by omega) (by decide))), fun _ => ⟨fun _ => ?_, fun z => absurd hp.1 z⟩⟩
  refine sp_X5_bodyFrom (d := d - 1) (v := 2) (by omega) (by decide) hc7 ?_
  rw [hb]
  refine sp_X5_begin (d := d - 1) (by omega) hT (by omega) (fun h6 T6 f6 => ?_)
  have p6 := hp.f f6
  refine ⟨fun e => absurd e (by decide), fun _ => ⟨fun e => absurd e (by decide), fun _ => ⟨fun e => absurd e (by decide), fun _ => ⟨fun e => absurd e (by decide), fun _ => ⟨fun e => absurd e (by decide), fun _ => ⟨fun e => absurd e (by decide), fun _ => ⟨fun e => absurd e (by decide), fun _ => ⟨fun _ => ?_, fun z => absurd rfl z⟩⟩⟩⟩⟩⟩⟩⟩
  rw [ab3, nI_1]
  refine cI0 (d := d - 1) (by omega) (Or.inl rfl) (by omega) ht p6 T6 (by rw [len_c]; omega) (fun h1 T1 f1 => ?_)
  rw [app_c] at T1
  exact k h1 T1 (f6.tr f1)
theorem cI4 (hd : 11 ≤ d) {c : Nat} (hc : c = 4) {t e : Nat} {x M K : Int32} {L : List Int32} (he : e ≤ 40 - 7) (ht : t < 7) (hp : kSp t M K h) (hT : kTc L h) (hl : L.length + 8 ≤ 30) (k : ∀ h1, kTc (L ++ (51 :: (pI0 K M t x).2)) h1 → kCf h h1 → Q ((pI0 K M t x).1 ^^^ K) h1) : Cal G d m_X5_speak [.ref 76, .int (nI 2), .int (nI c), .int x, .int (nI e)] h Q := by
  have hc7 : c < 7 := by omega
  have hb : kBdF 2 7 c = 51 := by
    subst hc
    decide
  refine cg_X5_speak (by omega) ⟨fun z => absurd z (len (nI_le (b := 40) (show e ≤ 40 by omega) (by decide))), fun _ => ⟨fun _ => ?_, fun z => absurd hp.1 z⟩⟩
  refine sp_X5_bodyFrom (d := d - 1) (v := 2) (by omega) (by decide) hc7 ?_
  rw [hb]
  refine sp_X5_begin (d := d - 1) (by omega) hT (by omega) (fun h6 T6 f6 => ?_)
  have p6 := hp.f f6
  refine ⟨fun e => absurd e (by decide), fun _ => ⟨fun e => absurd e (by decide), fun _ => ⟨fun e => absurd e (by decide), fun _ => ⟨fun e => absurd e (by decide), fun _ => ⟨fun e => absurd e (by decide), fun _ => ⟨fun e => absurd e (by decide), fun _ => ⟨fun e => absurd e (by decide), fun _ => ⟨fun e => absurd e (by decide), fun _ => ⟨fun e => absurd e (by decide), fun _ => ⟨fun _ => ?_, fun z => absurd rfl z⟩⟩⟩⟩⟩⟩⟩⟩⟩⟩
  rw [ab4, nI_1]
  refine cI0 (d := d - 1) (by omega) (Or.inr (Or.inl rfl)) (by omega) ht p6 T6 (by rw [len_c]; omega) (fun h1 T1 f1 => ?_)
  rw [app_c] at T1
  rw [(p6.f f1).2.2.2]
  exact k h1 T1 (f6.tr f1)
theorem cI (hd : 11 ≤ d) {c : Nat} (hc : c < 7) {t e : Nat} {x M K : Int32} {L : List Int32} (he : e ≤ 40 - 7) (ht : t < 7) (hp : kSp t M K h) (hT : kTc L h) (hl : L.length + 8 ≤ 30) (k : ∀ h1, kTc (L ++ (pI K M t c x).2) h1 → kCf h h1 → Q (pI K M t c x).1 h1) : Cal G d m_X5_speak [.ref 76, .int (nI 2), .int (nI c), .int x, .int (nI e)] h Q := by
  unfold pI at k
  by_cases c3 : c = 3
  · simp only [if_pos c3] at k
    exact cI3 (by omega) c3 (by omega) ht hp hT (by omega) k
  simp only [if_neg c3] at k
  by_cases c4 : c = 4
  · simp only [if_pos c4] at k
    exact cI4 (by omega) c4 (by omega) ht hp hT (by omega) k
  simp only [if_neg c4] at k
  exact cI0 (by omega) (by omega) (by omega) ht hp hT (by omega) k
/-- parts: what is answered, the bodies; where it is parted, the flag stands and what is answered does not matter -/
def kPf (h h' : kM) (x : Int32) : Prop := (∀ a, a ≠ 76 → a ≠ 77 → h' a = h a) ∧ (∀ s, s ≠ 1 → s ≠ 2 → h' 76 s = h 76 s) ∧ h' 76 2 = x
def pPl (c : Nat) : List Int32 := if c = 1 ∨ c = 4 then [21, 13] else [13]
def pPr (K M : Int32) (t c : Nat) (x : Int32) : Int32 × List Int32 := if c = 1 ∨ c = 4 then (x / (M - K) + (pT K M t t 1).1, 21 :: 13 :: (pT K M t t 1).2) else (x / (M - K), [13])
theorem cP0 (hd : 5 ≤ d) {c : Nat} (hc : c = 0 ∨ c = 2 ∨ c = 3 ∨ c = 5 ∨ c = 6) {t e : Nat} {x M K : Int32} {L : List Int32} (he : e ≤ 40 - 0) (ht : t < 7) (hp : kSp t M K h) (hT : kTc L h) (hl : L.length + 1 ≤ 30) (k0 : M - K = 0 → ∀ h1, kTc (L ++ [13]) h1 → kPf h h1 1 → Q 0 h1) (k : ¬ M - K = 0 → ∀ h1, kTc (L ++ [13]) h1 → kCf h h1 → Q (x / (M - K)) h1) : Cal G d m_X5_speak [.ref 76, .int (nI 3), .int (nI c), .int x, .int (nI e)] h Q := by
  have hc7 : c < 7 := by omega
  have hb : kBdF 3 7 c = 13 := by
    rcases hc with rfl | rfl | rfl | rfl | rfl <;> decide
  refine cg_X5_speak (by omega) ⟨fun z => absurd z (len (nI_le (b := 40) (show e ≤ 40 by omega) (by decide))), fun _ => ⟨fun _ => ?_, fun z => absurd hp.1 z⟩⟩
  refine sp_X5_bodyFrom (d := d - 1) (v := 3) (by omega) (by decide) hc7 ?_
  rw [hb]
  refine sp_X5_begin (d := d - 1) (by omega) hT (by omega) (fun h6 T6 f6 => ?_)
  have p6 := hp.f f6
  refine ⟨fun e => absurd e (by decide), fun _ => ⟨fun e => absurd e (by decide), fun _ => ⟨fun e => absurd e (by decide), fun _ => ⟨fun _ => ?_, fun z => absurd rfl z⟩⟩⟩⟩
  rw [p6.2.2.1, p6.2.2.2]
  refine cg_X5_partedBy (by omega) ⟨fun z => ⟨z, k z h6 T6 f6⟩, fun z h3 e3 => k0 z h3 ?_ ?_⟩
  · refine ⟨by rw [e3, kU_eq, pk_un (by decide)]; exact T6.1, fun i hi => by rw [e3, kU_ne (by decide)]; exact T6.2 i hi⟩
  · exact ⟨fun a a1 a2 => by rw [e3, kU_ne a1]; exact f6.1 a a1 a2, fun s s1 s2 => by rw [e3, kU_eq, pk_un s2]; exact f6.2 s s1, by rw [e3, kU_eq, pk_us]⟩
theorem cP1 (hd : 10 ≤ d) {c : Nat} (hc : c = 1 ∨ c = 4) {t e : Nat} {x M K : Int32} {L : List Int32} (he : e ≤ 40 - 6) (ht : t < 7) (hp : kSp t M K h) (hT : kTc L h) (hl : L.length + 8 ≤ 30) (k0 : M - K = 0 → ∀ h1, kTc (L ++ [21, 13]) h1 → kPf h h1 1 → Q 0 h1) (k : ¬ M - K = 0 → ∀ h1, kTc (L ++ (21 :: 13 :: (pT K M t t 1).2)) h1 → kCf h h1 → Q (x / (M - K) + (pT K M t t 1).1) h1) : Cal G d m_X5_speak [.ref 76, .int (nI 3), .int (nI c), .int x, .int (nI e)] h Q := by
  have hc7 : c < 7 := by omega
  have hb : kBdF 3 7 c = 21 := by
    rcases hc with rfl | rfl <;> decide
  refine cg_X5_speak (by omega) ⟨fun z => absurd z (len (nI_le (b := 40) (show e ≤ 40 by omega) (by decide))), fun _ => ⟨fun _ => ?_, fun z => absurd hp.1 z⟩⟩
  refine sp_X5_bodyFrom (d := d - 1) (v := 3) (by omega) (by decide) hc7 ?_
  rw [hb]
  refine sp_X5_begin (d := d - 1) (by omega) hT (by omega) (fun h6 T6 f6 => ?_)
  have p6 := hp.f f6
  refine ⟨fun e => absurd e (by decide), fun _ => ⟨fun e => absurd e (by decide), fun _ => ⟨fun e => absurd e (by decide), fun _ => ⟨fun e => absurd e (by decide), fun _ => ⟨fun e => absurd e (by decide), fun _ => ⟨fun _ => ?_, fun z => absurd rfl z⟩⟩⟩⟩⟩⟩
  rw [ab1, nI_1]
  refine cP0 (d := d - 1) (by omega) (Or.inl rfl) (by omega) ht p6 T6 (by rw [len_c]; omega) (fun z h1 T1 f1 => ?_) (fun z h1 T1 f1 => ?_)
  · rw [app_c] at T1
    refine cg_X5_speak (by omega) ⟨fun y => absurd y (len (nI_le (b := 40) (by omega) (by decide))), fun _ => ⟨fun y => absurd (f1.2.2.symm.trans y) (by decide), fun _ => ?_⟩⟩
    exact k0 z h1 T1 ⟨fun a a1 a2 => by rw [f1.1 a a1 a2, f6.1 a a1 a2], fun s s1 s2 => by rw [f1.2.1 s s1 s2, f6.2 s s1], f1.2.2⟩
  · rw [app_c] at T1
    have p1 := p6.f f1
    rw [p1.2.1]
    have hl2 : (L ++ [21, 13]).length = L.length + 2 := by rw [List.length_append]; rfl
    refine cT (d := d - 1) (by omega) ht (by omega) ht p1 T1 (by rw [hl2]; omega) (fun h2 T2 f2 => ?_)
    rw [List.append_assoc] at T2
    exact k z h2 T2 ((f6.tr f1).tr f2)
theorem cP (hd : 10 ≤ d) {c : Nat} (hc : c < 7) {t e : Nat} {x M K : Int32} {L : List Int32} (he : e ≤ 40 - 6) (ht : t < 7) (hp : kSp t M K h) (hT : kTc L h) (hl : L.length + 8 ≤ 30) (k0 : M - K = 0 → ∀ h1, kTc (L ++ pPl c) h1 → kPf h h1 1 → Q 0 h1) (k : ¬ M - K = 0 → ∀ h1, kTc (L ++ (pPr K M t c x).2) h1 → kCf h h1 → Q (pPr K M t c x).1 h1) : Cal G d m_X5_speak [.ref 76, .int (nI 3), .int (nI c), .int x, .int (nI e)] h Q := by
  unfold pPl at k0
  unfold pPr at k
  by_cases c1 : c = 1 ∨ c = 4
  · simp only [if_pos c1] at k0 k
    exact cP1 (by omega) c1 (by omega) ht hp hT (by omega) k0 k
  · simp only [if_neg c1] at k0 k
    exact cP0 (by omega) (by omega) (by omega) ht hp hT (by omega) k0 k
end Voice

