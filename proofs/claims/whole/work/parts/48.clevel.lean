/-! the class reads a level, and the whole -/
section CLevel
variable {G : kG} {h0 : kM} {T : Nat → Int32} {L : Nat} {u : Int32} {d : Nat} {Q : Int32 → kM → Prop} {h : kM}
theorem cLoopBad (hd : 2 ≤ d) {v1 v2 v3 v4 : Int32} {b : Nat} (hs : cBad h0 h L u b) (k : Q 0 h) : at_X1_readLevel_34 G d Q v1 v2 v3 v4 h :=
  sg_X1_readLevel_34 hd ⟨fun _ => k, fun _ => ⟨fun _ => k, fun q => absurd q (by rw [hs.2.1]; decide)⟩⟩
theorem cLoop {f : Nat} (hy : cHy h0 T L u) (hf : ¬ f % 6 = 0) (ihL : cLv G h0 T L u (f - 1)) {l o : Nat} (hl : l < 5) (ho : o ≤ 5) (ef : f = 6 * (5 - o) + (5 - l)) (hd : 3 * f + 13 ≤ d) {ts : List (Int32 × Int32)} {most : Nat} (hm : most ≤ 60) : ∀ (k i a : Nat) (us : List (Int32 × Int32)) (h : kM), i + k = most → cSt h0 h L u a (ts ++ us) → a ≤ L → (ts ++ us).length ≤ a → (∀ h', cEnd h0 h' L u (rLoop T L (nI l) (rP T L u (f - 1)) k a us) ts → Q 0 h') → at_X1_readLevel_34 G d Q (nI l) (nI o) (nI most) (nI i) h
  | 0, i, a, us, h, hi, hs, ha, hn, k => by
    refine sg_X1_readLevel_34 (by omega) ⟨fun _ => k h hs, fun c => absurd (nI_le (a := most) (b := i) (by omega) (by omega)) c⟩
  | n + 1, i, a, us, h, hi, hs, ha, hn, k => by
    have hL := hy.1
    refine sg_X1_readLevel_34 (by omega) ⟨fun c => ?_, fun _ => ⟨fun c => absurd hs.2.1 c, fun _ => ⟨hs.1.okN hy ha, ?_⟩⟩⟩
    · have c2 := (nI_leI (a := most) (b := i) (by omega) (by omega)).mp c
      omega
    rw [hs.1.nx hy ha]
    have eR : rLoop T L (nI l) (rP T L u (f - 1)) (n + 1) a us = if kLvl (rNx T L a) = nI l then (match rP T L u (f - 1) (a + 1) with
      | (b, none) => (b, none)
      | (b, some vs) => rLoop T L (nI l) (rP T L u (f - 1)) n b (us ++ vs ++ [(3, rNx T L a)])) else (a, some us) := rfl
    rw [eR] at k
    refine ⟨fun c => k h ?_, fun c => ⟨hs.1.okN hy ha, fun h6 e6 => ?_⟩⟩
    · rw [if_neg c]
      exact hs
    · rw [if_pos c] at k
      have c5 : ¬ kLvl (rNx T L a) = 5 := by
        rw [c]
        intro q
        have q2 := (nI_eq (a := l) (b := 5) (by omega) (by decide)).mp q
        omega
      have hlt : a < L := rNx_lt fun q => c5 (by rw [q]; exact kLvl_m1)
      have hg := rP_good (T := T) (u := u) (f - 1 + 1) (f - 1) (by omega) (a + 1) hlt
      rw [nI_1]
      refine ihL (d - 1) _ h6 (a + 1) (ts ++ us) (l + 1) o (by omega) ho (by omega) (by omega) (hs.adv e6) hlt (by omega) (fun h8 s8 => ?_)
      generalize rP T L u (f - 1) (a + 1) = r at k s8 hg
      obtain ⟨b, z⟩ := r
      cases z with
      | none => exact cAddB (by omega) s8 (fun h10 s10 => cLoopBad (by omega) s10 (k h10 s10))
      | some vs =>
        obtain ⟨g1, g2, g3⟩ := hg
        have g4 := (g3 vs rfl).1
        have g4' : vs.length + (a + 1) ≤ b := g4
        have g2' : b ≤ L := g2
        refine cAddS (t := (3, rNx T L a)) (by omega) s8 (by rw [List.length_append]; omega) rfl (fun h10 s10 => ?_)
        rw [nI_1]
        refine cLoop hy hf ihL hl ho ef hd hm n (i + 1) b (us ++ vs ++ [(3, rNx T L a)]) h10 (by omega) ?_ g2' ?_ k
        · have e : ts ++ us ++ vs ++ [(3, rNx T L a)] = ts ++ (us ++ vs ++ [(3, rNx T L a)]) := by simp only [List.append_assoc]
          rw [← e]
          exact s10
        · have e : (ts ++ (us ++ vs ++ [(3, rNx T L a)])).length = (ts ++ us).length + vs.length + 1 := by
            simp only [List.length_append, List.length_cons, List.length_nil]
            omega
          rw [e]
          omega
theorem cLv_of {f : Nat} (hy : cHy h0 T L u) (hO : cOp G h0 T L u f) (ihL : ∀ g, g < f → cLv G h0 T L u g) : cLv G h0 T L u f := by
  intro d Q h a ts l o hl ho hf hd hs ha hn k
  have hL := hy.1
  have l5 : nI l < (5 : Int32) ↔ l < 5 := by
    have e5 : (5 : Int32) = nI 5 := rfl
    rw [e5, nI_ltI (by omega) (by decide)]
  refine cg_X1_readLevel (by omega) ⟨fun c => ?_, fun c => ?_⟩
  · have hl5 := l5.mp c
    have hf6 : ¬ f % 6 = 0 := by omega
    have el : 5 - f % 6 = l := by omega
    rw [rP_lvl hf6, el] at k
    have hg := rP_good (T := T) (u := u) (f - 1 + 1) (f - 1) (by omega) a ha
    rw [nI_1]
    refine ihL (f - 1) (by omega) (d - 1) _ h a ts (l + 1) o (by omega) ho (by omega) (by omega) hs ha hn (fun h3 s3 => ?_)
    generalize rP T L u (f - 1) a = r at k s3 hg
    obtain ⟨b, z⟩ := r
    cases z with
    | none => exact ⟨fun _ => cLoopBad (by omega) s3 (k h3 s3), fun _ => cLoopBad (by omega) s3 (k h3 s3)⟩
    | some us =>
      obtain ⟨g1, g2, g3⟩ := hg
      have g4 := (g3 us rfl).1
      have g4' : us.length + a ≤ b := g4
      have g2' : b ≤ L := g2
      have hn2 : (ts ++ us).length ≤ b := by rw [List.length_append]; omega
      have l2 : nI l = (2 : Int32) ↔ l = 2 := by
        have e5 : (2 : Int32) = nI 2 := rfl
        rw [e5, nI_eq (by omega) (by decide)]
      refine ⟨fun c2 => ?_, fun c2 => ?_⟩
      · have em : rMost l = 60 := if_neg fun q => c2 (l2.mpr q)
        exact cLoop hy hf6 (ihL (f - 1) (by omega)) hl5 ho hf hd (most := 60) (by decide) 60 0 b us h3 rfl s3 g2' hn2 (by rw [em] at k; exact k)
      · have em : rMost l = 1 := if_pos (l2.mp c2)
        exact cLoop hy hf6 (ihL (f - 1) (by omega)) hl5 ho hf hd (most := 1) (by decide) 1 0 b us h3 rfl s3 g2' hn2 (by rw [em] at k; exact k)
  · have hl5 : l = 5 := by
      by_cases q : l < 5
      · exact absurd (l5.mpr q) c
      · omega
    subst hl5
    exact hO (d - 1) _ h a ts o ho (by omega) (by omega) hs ha hn k
theorem cRead (hy : cHy h0 T L u) : ∀ n f, f < n → cLv G h0 T L u f ∧ cOp G h0 T L u f
  | 0, f, hf => absurd hf (by omega)
  | n + 1, f, hf => by
    have ih : ∀ g, g < f → cLv G h0 T L u g ∧ cOp G h0 T L u g := fun g hg => cRead hy n g (by omega)
    have hO := cOp_of hy (fun g hg => (ih g hg).1) (fun g hg => (ih g hg).2)
    exact ⟨cLv_of hy hO (fun g hg => (ih g hg).1), hO⟩
/-- the FAULT, or -1 and the TEXT found -/
theorem sp_X1_faultOf (hd : 120 ≤ d) {L : Nat} {u : Int32} (hL : L ≤ 60) (hT : ∀ i, i < L → ∃ k, k < 256 ∧ h 10 i = nI k) (hu : u = 0 ∨ u = 1)
    (k1 : ∀ us h', (∀ q, q ≠ 35 → q ≠ 36 → q ≠ 37 → q ≠ 39 → h' q = h q) → rP (h 10) L u 35 0 = (L, some us) → h' 36 2 = nI us.length → (∀ i t, us[i]? = some t → h' 37 i = kEncT u t) → Q (-1) h')
    (k2 : ∀ b o h', (∀ q, q ≠ 35 → q ≠ 36 → q ≠ 37 → q ≠ 39 → h' q = h q) → rP (h 10) L u 35 0 = (b, o) → (o = none ∨ b < L) → Q (nI b) h') : Cal G d m_X1_faultOf [.ref 35, .ref 10, .int (nI L), .int u] h Q := by
  have eL : (if (60 : Int32) < nI L then (60 : Int32) else nI L) = nI L := if_neg (nI_nlt (a := 60) (b := L) hL (by decide))
  refine cg_X1_faultOf (by omega) (fun h1 e1 => ?_)
  rw [eL] at e1
  have e35 : h1 35 2 = nI L := by rw [e1, kU_eq]; rfl
  rw [e35, nI_clamp (by omega)]
  refine ⟨⟨by decide, by decide, nI_pos (by omega), ?_, ?_⟩, fun h3 e3 h4 e4 h5 e5 => ?_⟩
  · have e0 : (0 : Int32).toNatClampNeg = 0 := by decide
    rw [e0]; omega
  · have e0 : (0 : Int32).toNatClampNeg = 0 := by decide
    rw [e0]; omega
  have o5 : ∀ q, q ≠ 35 → q ≠ 39 → h5 q = h q := fun q q1 q2 => by rw [e5, kU_ne q1, e4, kU_ne q1, e3, kCp_ne q2, e1, kU_ne q1]
  have c39 : ∀ i, i < L → h5 39 i = h 10 i := fun i hi => by
    rw [e5, kU_ne (by decide), e4, kU_ne (by decide), e3, kCp_eq, e1, kU_ne (by decide), cpyS i hi]
  have c2 : h5 35 2 = nI L := by
    rw [e5, kU_eq]
    show h4 35 2 = _
    rw [e4, kU_eq]
    show h3 35 2 = _
    rw [e3, kCp_ne (by decide)]
    exact e35
  have c3 : h5 35 3 = 0 := by
    rw [e5, kU_eq]
    show h4 35 3 = _
    rw [e4, kU_eq]
    rfl
  have c4 : h5 35 4 = 0 := by
    rw [e5, kU_eq]
    rfl
  have main : ∀ (h7 h8 : kM), h7 = kU h5 35 5 u → h8 = kU h7 36 2 0 → Cal G (d - 1) m_X1_readLevel [.ref 35, .int (0 : Int32), .int (0 : Int32)] h8 (fun x9 h10 => ((¬ (h10 35 4) = 0 → Q (h10 35 3) h10) ∧ ((h10 35 4) = 0 → (((h10 35 2) ≤ (h10 35 3) → Q (-1 : Int32) h10) ∧ (¬ ((h10 35 2) ≤ (h10 35 3)) → Q (h10 35 3) h10))))) := by
    intro h7 h8 e7 e8
    have e835 : h8 35 = upd (h5 35) 5 u := by rw [e8, kU_ne (by decide), e7, kU_eq]
    have o8 : ∀ q, q ≠ 35 → q ≠ 36 → h8 q = h5 q := fun q q1 q2 => by rw [e8, kU_ne q2, e7, kU_ne q1]
    have hy : cHy h8 (h 10) L u := ⟨hL, fun i hi => by rw [o8 39 (by decide) (by decide), c39 i hi], hu, hT⟩
    have hs : cSt h8 h8 L u 0 [] := by
      refine ⟨⟨fun q _ _ _ => rfl, ?_, ?_, ?_⟩, ?_, ?_, fun i t ht => by cases ht⟩
      · rw [e835]; exact c2
      · rw [e835]; rfl
      · rw [e835]; exact c3
      · rw [e835]; exact c4
      · rw [e8, kU_eq]; rfl
    refine (cRead (G := G) hy 36 35 (by decide)).1 (d - 1) _ h8 0 [] 0 0 (by decide) (by decide) (by decide) (by omega) hs (Nat.zero_le _) (Nat.le_refl _) (fun h10 s10 => ?_)
    have hg := rP_good (T := h 10) (u := u) 36 35 (by decide) 0 (Nat.zero_le L)
    have fr : ∀ q, q ≠ 35 → q ≠ 36 → q ≠ 37 → q ≠ 39 → cFr h8 h10 L u (rP (h 10) L u 35 0).1 → h10 q = h q := fun q q1 q2 q3 q4 hf => by rw [hf.1 q q1 q2 q3, o8 q q1 q2, o5 q q1 q4]
    generalize e : rP (h 10) L u 35 0 = r at s10 hg fr
    obtain ⟨b, z⟩ := r
    have hb : b ≤ L := hg.2.1
    cases z with
    | none =>
      refine ⟨fun _ => ?_, fun q => absurd q (by rw [s10.2.1]; decide)⟩
      rw [s10.1.2.2.2]
      exact k2 b none h10 (fun q q1 q2 q3 q4 => fr q q1 q2 q3 q4 s10.1) e (Or.inl rfl)
    | some us =>
      have s2 : cSt h8 h10 L u b us := s10
      refine ⟨fun q => absurd s2.2.1 q, fun _ => ?_⟩
      rw [s2.1.2.2.2, s2.1.2.1]
      refine ⟨fun q => ?_, fun q => ?_⟩
      · have q2 := (nI_leI (by omega) (by omega)).mp q
        have eb : b = L := by omega
        subst eb
        exact k1 us h10 (fun q q1 q2 q3 q4 => fr q q1 q2 q3 q4 s2.1) e s2.2.2.1 s2.2.2.2
      · have q2 : b < L := by
          by_cases w : b < L
          · exact w
          · exact absurd (nI_le (a := L) (b := b) (by omega) (by omega)) q
        exact k2 b (some us) h10 (fun q q1 q2 q3 q4 => fr q q1 q2 q3 q4 s2.1) e (Or.inr q2)
  refine ⟨fun c h7 e7 h8 e8 => ?_, fun c h7 e7 h8 e8 => ?_⟩
  · have eu : u = 1 := hu.resolve_left c
    exact main h7 h8 (by rw [eu]; exact e7) e8
  · exact main h7 h8 (by rw [c]; exact e7) e8
end CLevel

