/-! an hour: class and model -/
section Hour
variable {G : kG} {d : Nat} {Q : Int32 → kM → Prop} {h : kM}
/-- a place in one number, in two -/
def kXy (p : Int32) : Nat × Nat := (p.toNatClampNeg % 64, p.toNatClampNeg / 64)
def kPort (v : kM) (p : Nat) : Nat := (v 4 p).toNatClampNeg
def kGo1 (v : kM) (e s : Int32) (p : Nat) : Int32 := kPl (kSai (v 1) (kPort v p) e s (kXy (v 3 p)))
/-- the view behind an hour -/
def kHr (v : kM) : kM := fun a => if a = 0 then upd (v 0) 13 (v 0 13 + 1) else if a = 3 then (fun p => if p < kNs v then kGo1 v (kWn v 0 (v 0 13)) (kWn v 1 (v 0 13)) p else v 3 p) else v a
theorem kXy_pl {x : Nat × Nat} (h1 : x.1 < 64) (h2 : x.2 < 3) : kXy (kPl x) = x := by
  unfold kXy kPl
  rw [nI_clamp (by omega)]
  show ((64 * x.2 + x.1) % 64, (64 * x.2 + x.1) / 64) = x
  rw [show (64 * x.2 + x.1) % 64 = x.1 by omega, show (64 * x.2 + x.1) / 64 = x.2 by omega]
theorem kSl_congr {la la' : Nat → Int32} {q ax : Nat} {neg : Bool} (e : ∀ c, c < 64 → la c = la' c) : ∀ (m : Nat) (x : Nat × Nat), x.1 < 64 → kSl la q ax neg m x = kSl la' q ax neg m x
  | 0, x, _ => rfl
  | m + 1, x, h1 => by
    by_cases h0 : x.2 = 0
    · cases e2 : kNx ax neg x.1 with
      | none => rw [kSl_stop e2, kSl_stop e2]
      | some c =>
        have hc := kNx_lt h1 e2
        rw [kSl_go h0 e2, kSl_go h0 e2]
        have : kSta la q c = kSta la' q c := by unfold kSta; rw [e c hc]
        rw [this]
        exact kSl_congr e m _ hc
    · rw [kSl_done h0, kSl_done h0]
theorem kSai_congr {la la' : Nat → Int32} {q : Nat} {e s : Int32} {x : Nat × Nat} (el : ∀ c, c < 64 → la c = la' c) (h1 : x.1 < 64) (h2 : x.2 < 3) : kSai la q e s x = kSai la' q e s x := by
  unfold kSai kAl
  rw [kSl_congr el _ x h1, kSl_congr el _ _ (kSl_lt _ _ h1 h2).1]
/-- what a ship's place is, by the relation -/
theorem kShipR.xy {v : kM} {g : Nat → Int32} {p : Nat} (hp : kShipR v g p) : ∃ x : Nat × Nat, x.1 < 64 ∧ x.2 < 3 ∧ kPort v p < 64 ∧ v 3 p = kPl x ∧ kXy (v 3 p) = x ∧ g (72 + 3 * p) = nI x.1 ∧ g (74 + 3 * p) = nI x.2 ∧ v 4 p = nI (kPort v p) ∧ g (73 + 3 * p) = nI (kPort v p) := by
  obtain ⟨c, s, q, h1, h2, h3, h4, h5, h6, h7, h8⟩ := hp
  have hq : kPort v p = q := by
    unfold kPort
    rw [h7, nI_clamp (by omega)]
  refine ⟨(c, s), h1, h2, by rw [hq]; exact h3, h4, ?_, h5, h6, by rw [hq]; exact h7, by rw [hq]; exact h8⟩
  rw [h4]
  exact kXy_pl (x := (c, s)) h1 h2
def at_X8_hour_18 (G : kG) (d : Nat) (Q : Int32 → kM → Prop)  (v1 : Int32) (v2 : Int32) (v3 : Int32) (h : kM) : Prop := Wp G d m_X8_hour (kEo G d m_X8_hour Q) 18 [.ref 88, .int v1, .int v2, .int v3] [] h
theorem sg_X8_hour_0 {G : kG} {d : Nat} {Q : Int32 → kM → Prop}   {h : kM} (hd : 7 ≤ d)  (H :
    Cal G (d - 1) m_X8_windTo [.ref 88, .int (0 : Int32)] h (fun x1 h2 =>
      Cal G (d - 1) m_X8_windTo [.ref 88, .int (1 : Int32)] h2 (fun x3 h4 =>
        at_X8_hour_18 G d Q (x1 / (3 : Int32)) (x3 / (3 : Int32)) (0 : Int32) h4
      )
    )) : Wp G d m_X8_hour (kEo G d m_X8_hour Q) 0 [.ref 88, .null, .null, .null] [] h := by
  refine wp_aload_n 1 dX8_hour_0 rfl rfl ?_
  refine wp_iconst (0 : Int32) 2 dX8_hour_1 kiconst_0 rfl ?_
  refine wp_cV (d - 1) 1 [.int (0 : Int32)] [] 5 dX8_hour_2 rfl (lk_X8_181 rfl) (by omega) kd_88 rfl rfl rfl (Nat.le_of_ble_eq_true rfl) (H.mono (fun x1 h2 H => ?_))
  refine wp_iconst (3 : Int32) 6 dX8_hour_5 kiconst_3 rfl ?_
  refine wp_idiv 7 dX8_hour_6 (by decide) rfl ?_
  refine wp_istore_n 8 dX8_hour_7 rfl (Nat.le_of_ble_eq_true rfl) rfl ?_
  refine wp_aload_n 9 dX8_hour_8 rfl rfl ?_
  refine wp_iconst (1 : Int32) 10 dX8_hour_9 kiconst_1 rfl ?_
  refine wp_cV (d - 1) 1 [.int (1 : Int32)] [] 13 dX8_hour_10 rfl (lk_X8_181 rfl) (by omega) kd_88 rfl rfl rfl (Nat.le_of_ble_eq_true rfl) (H.mono (fun x3 h4 H => ?_))
  refine wp_iconst (3 : Int32) 14 dX8_hour_13 kiconst_3 rfl ?_
  refine wp_idiv 15 dX8_hour_14 (by decide) rfl ?_
  refine wp_istore_n 16 dX8_hour_15 rfl (Nat.le_of_ble_eq_true rfl) rfl ?_
  refine wp_iconst (0 : Int32) 17 dX8_hour_16 kiconst_0 rfl ?_
  refine wp_istore_n 18 dX8_hour_17 rfl (Nat.le_of_ble_eq_true rfl) rfl ?_
  exact H

theorem cg_X8_hour {G : kG} {d : Nat} {Q : Int32 → kM → Prop}   {h : kM} (hd : 7 ≤ d)  (H :
    Cal G (d - 1) m_X8_windTo [.ref 88, .int (0 : Int32)] h (fun x1 h2 =>
      Cal G (d - 1) m_X8_windTo [.ref 88, .int (1 : Int32)] h2 (fun x3 h4 =>
        at_X8_hour_18 G d Q (x1 / (3 : Int32)) (x3 / (3 : Int32)) (0 : Int32) h4
      )
    )) : Cal G d m_X8_hour [.ref 88] h Q :=
  Cal.of [.ref 88, .null, .null, .null] (by decide +kernel) (Nat.le_of_ble_eq_true rfl) rfl (sg_X8_hour_0 hd  H)

theorem sg_X8_hour_18 {G : kG} {d : Nat} {Q : Int32 → kM → Prop}  {v1 : Int32} {v2 : Int32} {v3 : Int32} {h : kM} (hd : 7 ≤ d)  (H :
    (((h 89 0) ≤ v3 →
      ∀ h2 : kM, h2 = kU h 89 1 ((h 89 1) + (1 : Int32)) →
      Q 0 h2
    ) ∧ (¬ ((h 89 0) ≤ v3) →
      Cal G (d - 1) m_X8_sails [.ref 88, .int v3, .int v1, .int (1 : Int32)] h (fun x3 h4 =>
        Cal G (d - 1) m_X8_sails [.ref 88, .int v3, .int v2, .int (8 : Int32)] h4 (fun x5 h6 =>
          at_X8_hour_18 G d Q v1 v2 (v3 + (1 : Int32)) h6
        )
      )
    ))) : at_X8_hour_18 G d Q v1 v2 v3 h := by
  show Wp G d m_X8_hour (kEo G d m_X8_hour Q) 18 [.ref 88, .int v1, .int v2, .int v3] [] h
  refine wp_iload_n 19 dX8_hour_18 rfl rfl ?_
  refine wp_aload_n 20 dX8_hour_19 rfl rfl ?_
  refine wp_getR 1 89 23 dX8_hour_20 rfl fl_X8_7 kd_88 rfl rfl rfl rfl ?_
  refine wp_iconst (0 : Int32) 24 dX8_hour_23 kiconst_0 rfl ?_
  refine wp_iald 25 dX8_hour_24 rfl kd_89 (by unfold vp_in; decide) ?_
  refine wp_icmp_ge 49 28 dX8_hour_25 rfl rfl ⟨fun c1 => ?_, fun c1 => ?_⟩
  · replace H := H.1 c1
    refine wp_aload_n 50 dX8_hour_49 rfl rfl ?_
    refine wp_getR 1 89 53 dX8_hour_50 rfl fl_X8_7 kd_88 rfl rfl rfl rfl ?_
    refine wp_iconst (1 : Int32) 54 dX8_hour_53 kiconst_1 rfl ?_
    refine wp_dup2 55 dX8_hour_54 rfl rfl rfl ?_
    refine wp_iald 56 dX8_hour_55 rfl kd_89 (by unfold vp_in; decide) ?_
    refine wp_iconst (1 : Int32) 57 dX8_hour_56 kiconst_1 rfl ?_
    refine wp_iadd 58 dX8_hour_57 rfl ?_
    refine wp_iast 59 dX8_hour_58 rfl kd_89 (by unfold vp_in; decide) ?_
    refine wp_nm (fun h2 eh2 => ?_)
    replace H := H h2 eh2
    exact wp_retv dX8_hour_59 rfl H
  · replace H := H.2 c1
    refine wp_aload_n 29 dX8_hour_28 rfl rfl ?_
    refine wp_iload_n 30 dX8_hour_29 rfl rfl ?_
    refine wp_iload_n 31 dX8_hour_30 rfl rfl ?_
    refine wp_iconst (1 : Int32) 32 dX8_hour_31 kiconst_1 rfl ?_
    refine wp_cV (d - 1) 3 [.int v3, .int v1, .int (1 : Int32)] [] 35 dX8_hour_32 rfl (lk_X8_184 rfl) (by omega) kd_88 rfl rfl rfl (Nat.le_of_ble_eq_true rfl) (H.mono (fun x3 h4 H => ?_))
    refine wp_aload_n 36 dX8_hour_35 rfl rfl ?_
    refine wp_iload_n 37 dX8_hour_36 rfl rfl ?_
    refine wp_iload_n 38 dX8_hour_37 rfl rfl ?_
    refine wp_bipush (8 : Int32) 40 dX8_hour_38 kbipush_8 rfl ?_
    refine wp_cV (d - 1) 3 [.int v3, .int v2, .int (8 : Int32)] [] 43 dX8_hour_40 rfl (lk_X8_184 rfl) (by omega) kd_88 rfl rfl rfl (Nat.le_of_ble_eq_true rfl) (H.mono (fun x5 h6 H => ?_))
    refine wp_iinc (1 : Int32) 46 dX8_hour_43 rfl rfl kiconst_1 (Nat.le_of_ble_eq_true rfl) rfl ?_
    refine wp_goto 18 dX8_hour_46 rfl ?_
    exact H

def at_X8_go_2 (G : kG) (d : Nat) (Q : Int32 → kM → Prop)  (v1 : Int32) (v2 : Int32) (h : kM) : Prop := Wp G d m_X8_go (kEo G d m_X8_go Q) 2 [.ref 88, .int v1, .int v2] [] h
theorem sg_X8_go_0 {G : kG} {d : Nat} {Q : Int32 → kM → Prop}  {a1 : Int32} {h : kM} (hd : 8 ≤ d)  (H :
    at_X8_go_2 G d Q a1 (0 : Int32) h) : Wp G d m_X8_go (kEo G d m_X8_go Q) 0 [.ref 88, .int a1, .null] [] h := by
  refine wp_iconst (0 : Int32) 1 dX8_go_0 kiconst_0 rfl ?_
  refine wp_istore_n 2 dX8_go_1 rfl (Nat.le_of_ble_eq_true rfl) rfl ?_
  exact H

theorem cg_X8_go {G : kG} {d : Nat} {Q : Int32 → kM → Prop}  {a1 : Int32} {h : kM} (hd : 8 ≤ d)  (H :
    at_X8_go_2 G d Q a1 (0 : Int32) h) : Cal G d m_X8_go [.ref 88, .int a1] h Q :=
  Cal.of [.ref 88, .int a1, .null] (by decide +kernel) (Nat.le_of_ble_eq_true rfl) rfl (sg_X8_go_0 hd  H)

theorem sg_X8_go_2 {G : kG} {d : Nat} {Q : Int32 → kM → Prop}  {v1 : Int32} {v2 : Int32} {h : kM} (hd : 8 ≤ d)  (H :
    ((v1 ≤ v2 →
      Q 0 h
    ) ∧ (¬ (v1 ≤ v2) →
      Cal G (d - 1) m_X8_hour [.ref 88] h (fun x2 h3 =>
        at_X8_go_2 G d Q v1 (v2 + (1 : Int32)) h3
      )
    ))) : at_X8_go_2 G d Q v1 v2 h := by
  show Wp G d m_X8_go (kEo G d m_X8_go Q) 2 [.ref 88, .int v1, .int v2] [] h
  refine wp_iload_n 3 dX8_go_2 rfl rfl ?_
  refine wp_iload_n 4 dX8_go_3 rfl rfl ?_
  refine wp_icmp_ge 17 7 dX8_go_4 rfl rfl ⟨fun c1 => ?_, fun c1 => ?_⟩
  · replace H := H.1 c1
    exact wp_retv dX8_go_17 rfl H
  · replace H := H.2 c1
    refine wp_aload_n 8 dX8_go_7 rfl rfl ?_
    refine wp_cV (d - 1) 0 [] [] 11 dX8_go_8 rfl (lk_X8_187 rfl) (by omega) kd_88 rfl rfl rfl (Nat.le_of_ble_eq_true rfl) (H.mono (fun x2 h3 H => ?_))
    refine wp_iinc (1 : Int32) 14 dX8_go_11 rfl rfl kiconst_1 (Nat.le_of_ble_eq_true rfl) rfl ?_
    refine wp_goto 2 dX8_go_14 rfl ?_
    exact H

/-- the model's row while its ships go: those below i have gone -/
def kMid (v : kM) (g g' : Nat → Int32) (e s : Int32) (n i : Nat) : Prop := (∀ j, ¬ (72 ≤ j ∧ j < 87) → g' j = g j) ∧ ∀ p, p < n → g' (73 + 3 * p) = g (73 + 3 * p) ∧ g' (72 + 3 * p) = nI (if p < i then kSai (v 1) (kPort v p) e s (kXy (v 3 p)) else kXy (v 3 p)).1 ∧ g' (74 + 3 * p) = nI (if p < i then kSai (v 1) (kPort v p) e s (kXy (v 3 p)) else kXy (v 3 p)).2
theorem lp_mhour (hd : 7 ≤ d) {v : kM} {n H f w : Nat} {e s : Int32} (hS : kSRn v (h 89) n H f w) (kk : ∀ h1, (∀ a, a ≠ 89 → h1 a = h a) → kMid v (h 89) (h1 89) e s n n → ∀ h2, h2 = kU h1 89 1 (h1 89 1 + 1) → Q 0 h2) : ∀ (m i : Nat) (h1 : kM), i + m = n → (∀ a, a ≠ 89 → h1 a = h a) → kMid v (h 89) (h1 89) e s n i → at_X8_hour_18 G d Q (e / 3) (s / 3) (nI i) h1 := by
  have hn := hS.1.1
  intro m
  induction m with
  | zero =>
    intro i h1 hi ho hm
    have hi2 : i = n := by omega
    subst hi2
    have e0 : h1 89 0 = nI i := by rw [hm.1 0 (by omega), hS.1.2.2]
    exact sg_X8_hour_18 hd ⟨fun _ => kk h1 ho hm, fun q => absurd (by rw [e0]; exact nI_le (Nat.le_refl _) (by omega)) q⟩
  | succ m ih =>
    intro i h1 hi ho hm
    have e0 : h1 89 0 = nI n := by rw [hm.1 0 (by omega), hS.1.2.2]
    obtain ⟨x, x1, x2, x3, x4, x5, x6, x7, x8, x9⟩ := (hS.2.2.2.2.2.2.2.1 i (by omega)).xy
    have hmi := hm.2 i (by omega)
    rw [if_neg (Nat.lt_irrefl i), x5] at hmi
    have hla : ∀ c, c < 64 → h 89 (8 + c) = v 1 c := fun c hc => (hS.2.2.2.2.2.2.1 c hc).symm
    refine sg_X8_hour_18 hd ⟨fun q => absurd q (by rw [e0]; exact ltn (nI_lt (by omega) (by omega))), fun _ => ?_⟩
    have mv0 : kMv h1 h1 i x := ⟨fun _ _ => rfl, fun _ _ _ => rfl, hmi.2.1, hmi.2.2⟩
    refine sp_X8_sails (d := d - 1) (by omega) (p := i) (q := kPort v i) (by omega) x3 (la := v 1) (fun c hc => by rw [hm.1 (8 + c) (by omega)]; exact hla c hc) (by rw [hmi.1]; exact x9) (ax := 0) (by decide) mv0 x1 x2 (fun h2 m2 => ?_)
    have l1 := kAl_lt (la := v 1) (q := kPort v i) (ax := 0) (far := e / 3) x1 x2
    have mv2 : kMv h2 h2 i (kAl (v 1) (kPort v i) 0 (e / 3) x) := ⟨fun _ _ => rfl, fun _ _ _ => rfl, m2.2.2.1, m2.2.2.2⟩
    refine sp_X8_sails (d := d - 1) (by omega) (p := i) (q := kPort v i) (by omega) x3 (la := v 1) (fun c hc => by rw [m2.2.1 (8 + c) (by omega) (by omega), hm.1 (8 + c) (by omega)]; exact hla c hc) (by rw [m2.2.1 (73 + 3 * i) (by omega) (by omega), hmi.1]; exact x9) (ax := 1) (by decide) mv2 l1.1 l1.2 (fun h3 m3 => ?_)
    rw [nI_1]
    refine ih (i + 1) h3 (by omega) (fun a ha => by rw [m3.1 a ha, m2.1 a ha, ho a ha]) ⟨fun j hj => ?_, fun r hr => ?_⟩
    · rw [m3.2.1 j (by omega) (by omega), m2.2.1 j (by omega) (by omega), hm.1 j hj]
    · by_cases er : r = i
      · subst er
        rw [if_pos (Nat.lt_succ_self r), x5]
        refine ⟨?_, m3.2.2.1, m3.2.2.2⟩
        rw [m3.2.1 (73 + 3 * r) (by omega) (by omega), m2.2.1 (73 + 3 * r) (by omega) (by omega), hmi.1]
      · have hmr := hm.2 r hr
        rw [m3.2.1 (73 + 3 * r) (by omega) (by omega), m2.2.1 (73 + 3 * r) (by omega) (by omega), m3.2.1 (72 + 3 * r) (by omega) (by omega), m2.2.1 (72 + 3 * r) (by omega) (by omega), m3.2.1 (74 + 3 * r) (by omega) (by omega), m2.2.1 (74 + 3 * r) (by omega) (by omega)]
        by_cases e2 : r < i
        · rw [if_pos (by omega)]
          rw [if_pos e2] at hmr
          exact hmr
        · rw [if_neg (by omega)]
          rw [if_neg e2] at hmr
          exact hmr
/-- only the model's sea and the rows in which texts are worked out differ -/
def kS3 (h h' : kM) : Prop := ∀ a, a ≠ 89 → a ≠ 95 → a ≠ 96 → h' a = h a
theorem kS3.tr {h h1 h2 : kM} (e1 : kS3 h h1) (e2 : kS3 h1 h2) : kS3 h h2 := fun a x y z => (e2 a x y z).trans (e1 a x y z)
theorem kS3.rf {h : kM} : kS3 h h := fun _ _ _ _ => rfl
theorem sp_X8_hourF (hd : 7 ≤ d) {v : kM} {n H f w : Nat} (hS : kSRn v (h 89) n H f w) (hH : H + 1 ≤ 100000) (kk : ∀ h1, kS3 h h1 → (∀ j, j ≠ 1 → ¬ (72 ≤ j ∧ j < 87) → h1 89 j = h 89 j) → kSRn (kHr v) (h1 89) n (H + 1) f w → Q 0 h1) : Cal G d m_X8_hour [.ref 88] h Q := by
  have hn := hS.1.1
  refine cg_X8_hour hd (sp_X8_windTo (d := d - 1) (by omega) (Or.inl rfl) hS (fun h1 q1 => ?_))
  refine sp_X8_windTo (d := d - 1) (by omega) (Or.inr rfl) (hS.congr2 q1.g) (fun h2 q2 => ?_)
  have q3 := q1.tr q2
  have hS2 : kSRn v (h2 89) n H f w := hS.congr2 q3.g
  refine lp_mhour hd hS2 ?_ n 0 h2 (by omega) (fun _ _ => rfl) ⟨fun _ _ => rfl, fun p hp => ?_⟩
  · intro h3 ho hm h4 e4
    refine kk h4 (fun a a1 a2 a3 => by rw [e4, kU_ne a1, ho a a1, q3 a a2 a3]) (fun j j1 j2 => by rw [e4, kU_eq, pk_un j1, hm.1 j j2, q3.g]) ?_
    have g4 : h4 89 = upd (h3 89) 1 (nI (H + 1)) := by rw [e4, kU_eq, hm.1 1 (by omega), hS2.2.1.2.2, nI_1]
    refine hS2.re_hour (fun a a1 a2 a3 a4 a5 => ?_) (fun t t1 t2 => ?_) (fun j j1 j2 => by rw [g4, pk_un (by omega), hm.1 j j2]) ⟨hH, ?_, by rw [g4, pk_us]⟩ (fun p hp => ?_)
    · show (if a = 0 then _ else if a = 3 then _ else v a) = v a
      rw [if_neg a2, if_neg a4]
    · show upd (v 0) 13 _ t = v 0 t
      rw [pk_un t2]
    · show upd (v 0) 13 (v 0 13 + 1) 13 = _
      rw [pk_us, hS2.2.1.2.1, nI_1]
    · obtain ⟨x, x1, x2, x3, x4, x5, x6, x7, x8, x9⟩ := (hS2.2.2.2.2.2.2.2.1 p hp).xy
      have hmp := hm.2 p hp
      rw [if_pos hp, x5] at hmp
      have l := kSai_lt (la := v 1) (q := kPort v p) (e := kWn v 0 (v 0 13)) (s := kWn v 1 (v 0 13)) x1 x2
      refine ⟨_, _, kPort v p, l.1, l.2, x3, ?_, ?_, ?_, ?_, ?_⟩
      · show (if p < kNs v then kGo1 v _ _ p else v 3 p) = _
        rw [hS2.ns, if_pos hp]
        unfold kGo1
        rw [x5]
        rfl
      · rw [g4, pk_un (by omega)]
        exact hmp.2.1
      · rw [g4, pk_un (by omega)]
        exact hmp.2.2
      · show v 4 p = _
        exact x8
      · rw [g4, pk_un (by omega), hmp.1]
        exact x9
  · obtain ⟨x, x1, x2, x3, x4, x5, x6, x7, x8, x9⟩ := (hS2.2.2.2.2.2.2.2.1 p hp).xy
    rw [if_neg (Nat.not_lt_zero p), x5]
    exact ⟨rfl, x6, x7⟩
theorem sp_X8_hour (hd : 7 ≤ d) {v : kM} {n H f w : Nat} (hS : kSRn v (h 89) n H f w) (hH : H + 1 ≤ 100000) (kk : ∀ h1, kS3 h h1 → kSRn (kHr v) (h1 89) n (H + 1) f w → Q 0 h1) : Cal G d m_X8_hour [.ref 88] h Q :=
  sp_X8_hourF hd hS hH (fun h1 a _ b => kk h1 a b)
end Hour

