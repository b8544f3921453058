/-! check: the winds of the hours ahead against what was told -/
section Check
variable {G : kG} {d : Nat} {Q : Int32 → kM → Prop} {h : kM}
theorem kS2.s3 {h h' : kM} (e : kS2 h h') : kS3 h h' := fun a _ x y => e a x y
/-- the winds of the hour i ahead, told in one number -/
def kWs (v : kM) (i : Nat) : Int32 := 100 * kWn v 0 (v 0 13 + nI i) + kWn v 1 (v 0 13 + nI i)
theorem kS1.wn {h h' : kM} (e : kS1 1 h h') (w t : Int32) : kWn (kVw h' 1) w t = kWn (kVw h 1) w t := kWn_eq e.eq w t
theorem lp_check (hd : 7 ≤ d) {N : Nat} (hN : N ≤ 24) (ho : kSeaOk (kVw h 1)) (kk : ∀ h1 m r, kS1 1 h h1 → m ≤ N → (∀ j, j < m → h 11 j = kWs (kVw h 1) j) → (m = N ∧ r = 0 ∨ m < N ∧ r = 1 + nI m ∧ ¬ h 11 m = kWs (kVw h 1) m) → Q r h1) : ∀ (m i : Nat) (h1 : kM), i + m = N → kS1 1 h h1 → (∀ j, j < i → h 11 j = kWs (kVw h 1) j) → at_X7_check_18 G d Q (nI N) (nI i) h1 := by
  intro m
  induction m with
  | zero =>
    intro i h1 hi q al
    have hi2 : i = N := by omega
    subst hi2
    exact sg_X7_check_18 hd ⟨fun _ => kk h1 i 0 q (Nat.le_refl _) al (Or.inl ⟨rfl, rfl⟩), fun z => absurd (nI_le (Nat.le_refl _) (by omega)) z⟩
  | succ m ih =>
    intro i h1 hi q al
    have o1 : kSeaOk (kVw h1 1) := ho.eq q.eq
    refine sg_X7_check_18 hd ⟨fun z => absurd z (ltn (nI_lt (by omega) (by omega))), fun _ => ⟨vp_in_nI (by omega) (by decide), ⟨by unfold vp_in; decide, o1⟩, fun h4 q4 => ⟨⟨by unfold vp_in; decide, o1.eq q4.eq⟩, fun h6 q6 => ?_⟩⟩⟩
    have e11 : h1 11 = h 11 := q 11 (by decide) (by decide)
    have e1 : h1 1 = h 1 := q 1 (by decide) (by decide)
    rw [q4.wn, q.wn, q.wn, e11, e1, nI_clamp (by omega), nI_1]
    have q7 : kS1 1 h h6 := (q.tr q4).tr q6
    refine ⟨fun c => ih (i + 1) h6 (by omega) q7 (fun j hj => ?_), fun c => ?_⟩
    · by_cases e : j = i
      · subst e
        exact c
      · exact al j (by omega)
    · refine kk h6 i (1 + nI i) q7 (by omega) al (Or.inr ⟨by omega, rfl, c⟩)
/-- the model's row on its way ahead -/
def kAh (v : kM) (g : Nat → Int32) (n H f w i : Nat) (h h1 : kM) : Prop := kS3 h h1 ∧ (∀ j, j ≠ 1 → ¬ (72 ≤ j ∧ j < 87) → h1 89 j = g j) ∧ kSRn (kHrN v i) (h1 89) n (H + i) f w
theorem kAh.step {v : kM} {g : Nat → Int32} {n H f w i : Nat} {h h1 : kM} (a : kAh v g n H f w i h h1) (hH : H + i + 1 ≤ 100000) (hd : 7 ≤ d) (kk : ∀ h2, kAh v g n H f w (i + 1) h h2 → Q 0 h2) : Cal G d m_X8_hour [.ref 88] h1 Q :=
  sp_X8_hourF hd a.2.2 hH (fun h2 q2 f2 hS2 => kk h2 ⟨a.1.tr q2, fun j j1 j2 => by rw [f2 j j1 j2, a.2.1 j j1 j2], hS2⟩)
theorem kAh.s2 {v : kM} {g : Nat → Int32} {n H f w i : Nat} {h h1 h2 : kM} (a : kAh v g n H f w i h h1) (q : kS2 h1 h2) : kAh v g n H f w i h h2 :=
  ⟨a.1.tr q.s3, fun j j1 j2 => by rw [q.g, a.2.1 j j1 j2], a.2.2.congr2 q.g⟩
/-- the row laid back is the row that was laid down -/
theorem kAh.back {v : kM} {g : Nat → Int32} {n H f w i : Nat} {h h1 h2 : kM} (a : kAh v g n H f w i h h1) (h92 : ∀ j, j < 147 → h 92 j = g j) (e2 : h2 = kCp h1 92 89 0 0 147) : h2 89 = g ∧ ∀ b, b ≠ 89 → b ≠ 95 → b ≠ 96 → h2 b = h b := by
  subst e2
  refine ⟨?_, fun b b1 b2 b3 => by rw [kCp_ne b1, a.1 b b1 b2 b3]⟩
  rw [kCp_eq]
  funext j
  rw [cpy0]
  by_cases hj : j < 147
  · rw [if_pos hj, a.1 92 (by decide) (by decide) (by decide)]
    exact h92 j hj
  · rw [if_neg hj]
    exact a.2.1 j (by omega) (by omega)
theorem kAh.start {v : kM} {g : Nat → Int32} {n H f w : Nat} (e : h 89 = g) (hS : kSRn v g n H f w) : kAh v g n H f w 0 h h :=
  ⟨kS3.rf, fun j _ _ => by rw [e], by rw [e]; exact hS⟩
theorem kAh.wn {v : kM} {i : Nat} (w : Int32) : kWn (kHrN v i) w (kHrN v i 0 13) = kWn v w (v 0 13 + nI i) := by
  rw [kWn_N, kHrN_h]
theorem lp_mcheck (hd : 8 ≤ d) {v : kM} {g : Nat → Int32} {n H f w N m : Nat} {r : Int32} (hN : N ≤ 24) (hH : H ≤ 9999) (hm : m ≤ N) (al : ∀ j, j < m → g (457 + j) = kWs v j) (en : m = N ∧ r = 0 ∨ m < N ∧ r = 1 + nI m ∧ ¬ g (457 + m) = kWs v m) (kk : ∀ h1, kAh v g n H f w m h h1 → ∀ h2, h2 = kCp h1 92 89 0 0 147 → Q r h2) : ∀ (k i : Nat) (h1 : kM), i + k = m → kAh v g n H f w i h h1 → at_X8_check_21 G d Q (nI N) (nI i) h1 := by
  intro k
  induction k with
  | zero =>
    intro i h1 hi a
    have hi2 : i = m := by omega
    subst hi2
    rcases en with ⟨e1, e2⟩ | ⟨e1, e2, e3⟩
    · subst e1
      refine sg_X8_check_21 hd ⟨fun _ h2 q2 => ⟨fun z => absurd rfl z, fun _ => ?_⟩, fun z => absurd (nI_le (Nat.le_refl _) (by omega)) z⟩
      rw [← e2]
      exact kk h1 a h2 q2
    · refine sg_X8_check_21 hd ⟨fun z => absurd z (ltn (nI_lt (by omega) (by omega))), fun _ => ⟨?_, ?_⟩⟩
      · show vp_in (nI 457 + nI i) 481
        rw [nI_add]
        exact vp_in_nI (by omega) (by decide)
      · refine sp_X8_windTo (d := d - 1) (by omega) (Or.inl rfl) a.2.2 (fun h2 q2 => ?_)
        have a2 := a.s2 q2
        refine sp_X8_windTo (d := d - 1) (by omega) (Or.inr rfl) a2.2.2 (fun h3 q3 => ?_)
        have a3 := a2.s2 q3
        rw [kAh.wn, kAh.wn, show (457 : Int32) + nI i = nI (457 + i) from nI_add 457 i, nI_clamp (by omega), a.2.1 (457 + i) (by omega) (by omega)]
        refine ⟨fun _ h4 q4 => ⟨fun _ => ?_, fun z => absurd ((nI_eq (by omega) (by omega)).mp z) (by omega)⟩, fun z => absurd z e3⟩
        rw [← e2]
        exact kk h3 a3 h4 q4
  | succ k ih =>
    intro i h1 hi a
    refine sg_X8_check_21 hd ⟨fun z => absurd z (ltn (nI_lt (by omega) (by omega))), fun _ => ⟨?_, ?_⟩⟩
    · show vp_in (nI 457 + nI i) 481
      rw [nI_add]
      exact vp_in_nI (by omega) (by decide)
    · refine sp_X8_windTo (d := d - 1) (by omega) (Or.inl rfl) a.2.2 (fun h2 q2 => ?_)
      have a2 := a.s2 q2
      refine sp_X8_windTo (d := d - 1) (by omega) (Or.inr rfl) a2.2.2 (fun h3 q3 => ?_)
      have a3 := a2.s2 q3
      rw [kAh.wn, kAh.wn, show (457 : Int32) + nI i = nI (457 + i) from nI_add 457 i, nI_clamp (by omega), a.2.1 (457 + i) (by omega) (by omega)]
      refine ⟨fun z => absurd (al i (by omega)) z, fun _ => ?_⟩
      rw [nI_1]
      exact a3.step (by omega) (by omega) (fun h4 a4 => ih (i + 1) h4 (by omega) a4)
theorem st_check (hd : 9 ≤ d) (hR : kRel h) : kStp G d m_X7_check m_X8_check [] h := by
  obtain ⟨n, H, f, w, hS, hH⟩ := hR.n
  obtain ⟨hw, w1, w2⟩ := hS.2.2.2.1
  have w1 : h 1 15 = nI w := w1
  have s13 := hS.2.2.2.2.2.2.2.2.2.2.2.2
  refine cg_X7_check (by omega) (fun h1 e1 => ?_)
  rw [w1]
  have c1 : h1 1 = upd (h 1) 15 0 := by rw [e1, kU_eq]
  have o1 : ∀ a, a ≠ 1 → h1 a = h a := fun a ha => by rw [e1, kU_ne ha]
  have hS1 : kSRn (kVw h1 1) (upd (h 89) 5 0) n H f 0 := hS.re_wa (fun a x0 x1 x2 x3 => o1 (1 + a) (by omega)) (fun s _ hs => by show h1 1 s = h 1 s; rw [c1, pk_un hs]) (fun j hj hj2 => by rw [pk_un (by omega)]) ⟨by omega, by show h1 1 15 = _; rw [c1, pk_us]; rfl, by rw [pk_us]; rfl⟩ (fun i hi => absurd hi (Nat.not_lt_zero i))
  refine lp_check (by omega) hw hS1.ok ?_ w 0 h1 (by omega) (fun _ _ _ => rfl) (fun j hj => absurd hj (Nat.not_lt_zero j))
  intro h2 m r q2 hm al en
  have e289 : h2 89 = h 89 := by rw [q2 89 (by decide) (by decide), o1 89 (by decide)]
  refine cg_X8_check (by omega) (fun h3 e3 h4 e4 => ?_)
  rw [e289, w2]
  have g3 : h3 89 = upd (h 89) 5 0 := by rw [e3, kU_eq, e289]
  have g4 : h4 89 = upd (h 89) 5 0 := by rw [e4, kCp_ne (by decide), g3]
  have e11 : ∀ j, h1 11 j = h 11 j := fun j => by rw [o1 11 (by decide)]
  have key : ∀ j, j < w → upd (h 89) 5 0 (457 + j) = h1 11 j := fun j hj => by rw [pk_un (by omega), e11]; exact (s13 j hj).symm
  refine lp_mcheck (v := kVw h1 1) (g := upd (h 89) 5 0) (n := n) (H := H) (f := f) (w := 0) (N := w) (m := m) (r := r) (by omega) hw hH hm (fun j hj => by rw [key j (by omega)]; exact al j hj) ?_ (fun h5 a5 h6 e6 => ?_) m 0 h4 (by omega) (kAh.start g4 hS1)
  · rcases en with e | ⟨e1, e2, e3⟩
    · exact Or.inl e
    · exact Or.inr ⟨e1, e2, by rw [key m e1]; exact e3⟩
  · obtain ⟨b1, b2⟩ := a5.back (fun j hj => by rw [e4, kCp_eq, cpy0, if_pos hj, g3]) e6
    have ho : ∀ a, a ≠ 89 → a ≠ 95 → a ≠ 96 → a ≠ 92 → a ≠ 14 → a ≠ 17 → a ≠ 1 → h6 a = h a := fun a x1 x2 x3 x4 x5 x6 x7 => by rw [b2 a x1 x2 x3, e4, kCp_ne x4, e3, kU_ne x1, q2 a (by omega) (by omega), o1 a x7]
    have ho2 : ∀ a, a ≠ 89 → a ≠ 95 → a ≠ 96 → a ≠ 92 → a ≠ 14 → a ≠ 17 → h6 a = h1 a := fun a x1 x2 x3 x4 x5 x6 => by rw [b2 a x1 x2 x3, e4, kCp_ne x4, e3, kU_ne x1, q2 a (by omega) (by omega)]
    refine ⟨rfl, hR.sea (fun a x1 x2 x3 x4 x5 => ?_) ?_ ?_ ?_ ?_ ⟨n, H, f, 0, ?_, hH⟩⟩
    · unfold kScr at x2
      exact ho a x5 (by omega) (by omega) (by omega) (by omega) (by omega) (by omega)
    · rw [ho 0 (by decide) (by decide) (by decide) (by decide) (by decide) (by decide) (by decide)]
    · rw [ho 76 (by decide) (by decide) (by decide) (by decide) (by decide) (by decide) (by decide)]
    · rw [ho 88 (by decide) (by decide) (by decide) (by decide) (by decide) (by decide) (by decide)]
    · rw [ho 88 (by decide) (by decide) (by decide) (by decide) (by decide) (by decide) (by decide)]
    · rw [b1]
      exact hS1.eq (fun a x1 x2 => ho2 (1 + a) (by omega) (by omega) (by omega) (by omega) (by omega) (by omega))
end Check

