/-! the class reads a text -/
section CRead
variable {G : kG} {h0 : kM} {T : Nat → Int32} {L : Nat} {u : Int32}
def cFr (h0 h : kM) (L : Nat) (u : Int32) (a : Nat) : Prop := (∀ q, q ≠ 35 → q ≠ 36 → q ≠ 37 → h q = h0 q) ∧ h 35 2 = nI L ∧ h 35 5 = u ∧ h 35 3 = nI a
def cSt (h0 h : kM) (L : Nat) (u : Int32) (a : Nat) (ts : List (Int32 × Int32)) : Prop := cFr h0 h L u a ∧ h 35 4 = 0 ∧ h 36 2 = nI ts.length ∧ ∀ i t, ts[i]? = some t → h 37 i = kEncT u t
def cBad (h0 h : kM) (L : Nat) (u : Int32) (a : Nat) : Prop := cFr h0 h L u a ∧ h 35 4 = 1 ∧ ∃ n, n ≤ 60 ∧ h 36 2 = nI n
def cEnd (h0 h : kM) (L : Nat) (u : Int32) (r : kRes) (ts : List (Int32 × Int32)) : Prop := match r with
  | (b, none) => cBad h0 h L u b
  | (b, some us) => cSt h0 h L u b (ts ++ us)
def cHy (h0 : kM) (T : Nat → Int32) (L : Nat) (u : Int32) : Prop := L ≤ 60 ∧ (∀ i, i < L → h0 39 i = T i) ∧ (u = 0 ∨ u = 1) ∧ ∀ i, i < L → ∃ k, k < 256 ∧ T i = nI k
theorem cFr.okN {h : kM} {a : Nat} (hy : cHy h0 T L u) (hs : cFr h0 h L u a) (ha : a ≤ L) : okN h := by
  intro q
  rw [hs.2.1, hs.2.2.2] at q
  rw [hs.2.2.2]
  have hl := hy.1
  have q2 := (nI_ltI (by omega) (by omega)).mp q
  exact vp_in_nI (by omega) (by decide)
theorem cFr.nx {h : kM} {a : Nat} (hy : cHy h0 T L u) (hs : cFr h0 h L u a) (ha : a ≤ L) : kNext h = rNx T L a := by
  have hl := hy.1
  unfold kNext rNx
  rw [hs.2.1, hs.2.2.2, hs.1 39 (by decide) (by decide) (by decide), nI_clamp (by omega)]
  by_cases c : a < L
  · rw [if_pos (nI_lt c (by omega)), if_pos c, hy.2.1 a c]
  · rw [if_neg (nI_nlt (by omega) (by omega)), if_neg c]
theorem cFr.u3 {h : kM} {a : Nat} (hs : cFr h0 h L u a) : cFr h0 (kU h 35 3 (h 35 3 + 1)) L u (a + 1) := by
  refine ⟨fun q q1 q2 q3 => by rw [kU_ne q1, hs.1 q q1 q2 q3], ?_, ?_, ?_⟩
  · rw [kU_eq]; exact hs.2.1
  · rw [kU_eq]; exact hs.2.2.1
  · rw [kU_eq]
    show h 35 3 + 1 = _
    rw [hs.2.2.2, nI_1]
theorem cFr.u4 {h : kM} {a : Nat} {x : Int32} (hs : cFr h0 h L u a) : cFr h0 (kU h 35 4 x) L u a := by
  refine ⟨fun q q1 q2 q3 => by rw [kU_ne q1, hs.1 q q1 q2 q3], ?_, ?_, ?_⟩
  · rw [kU_eq]; exact hs.2.1
  · rw [kU_eq]; exact hs.2.2.1
  · rw [kU_eq]; exact hs.2.2.2
theorem cSt.adv {h h1 : kM} {a : Nat} {ts : List (Int32 × Int32)} (hs : cSt h0 h L u a ts) (e : h1 = kU h 35 3 (h 35 3 + 1)) : cSt h0 h1 L u (a + 1) ts := by
  subst e
  refine ⟨hs.1.u3, ?_, ?_, ?_⟩
  · rw [kU_eq]; exact hs.2.1
  · rw [kU_ne (by decide)]; exact hs.2.2.1
  · rw [kU_ne (by decide)]; exact hs.2.2.2
theorem cSt.stuck {h h1 : kM} {a : Nat} {ts : List (Int32 × Int32)} (hs : cSt h0 h L u a ts) (hn : ts.length ≤ 60) (e : h1 = kU h 35 4 1) : cBad h0 h1 L u a := by
  subst e
  refine ⟨hs.1.u4, by rw [kU_eq]; rfl, ts.length, hn, ?_⟩
  rw [kU_ne (by decide)]; exact hs.2.2.1
theorem cBad.stuck {h h1 : kM} {a : Nat} (hs : cBad h0 h L u a) (e : h1 = kU h 35 4 1) : cBad h0 h1 L u a := by
  subst e
  obtain ⟨n, hn, e⟩ := hs.2.2
  refine ⟨hs.1.u4, by rw [kU_eq]; rfl, n, hn, ?_⟩
  rw [kU_ne (by decide)]; exact e
variable {d : Nat} {Q : Int32 → kM → Prop} {h : kM}
theorem cFr.add {h : kM} {a : Nat} {x y : Int32} {i : Nat} (hs : cFr h0 h L u a) : cFr h0 (kU (kU h 37 i x) 36 2 y) L u a := by
  have e : kU (kU h 37 i x) 36 2 y 35 = h 35 := by rw [kU_ne (by decide), kU_ne (by decide)]
  refine ⟨fun q q1 q2 q3 => by rw [kU_ne q2, kU_ne q3, hs.1 q q1 q2 q3], ?_, ?_, ?_⟩
  · rw [e]; exact hs.2.1
  · rw [e]; exact hs.2.2.1
  · rw [e]; exact hs.2.2.2
theorem cAddS (hd : 1 ≤ d) {a : Nat} {ts : List (Int32 × Int32)} {t : Int32 × Int32} {x : Int32} (hs : cSt h0 h L u a ts) (hl : ts.length < 60) (hx : kEncT u t = x) (k : ∀ h', cSt h0 h' L u a (ts ++ [t]) → Q 0 h') : Cal G d m_X6_add [.ref 36, .int x] h Q := by
  subst hx
  have e2 : h 36 2 = nI ts.length := hs.2.2.1
  have ec : (h 36 2).toNatClampNeg = ts.length := by rw [e2, nI_clamp (by omega)]
  refine cg_X6_add hd kTxt_is36 ⟨fun c => ?_, fun _ => ⟨by rw [e2]; exact vp_in_nI hl (by decide), fun h3 e3 h4 e4 => k h4 ?_⟩⟩
  · rw [e2] at c
    have c2 := (nI_leI (a := 60) (b := ts.length) (by decide) (by omega)).mp c
    omega
  · have e36 : h3 36 = h 36 := by rw [e3, kU_ne (by decide)]
    rw [e36] at e4
    rw [e3] at e4
    subst e4
    refine ⟨hs.1.add, ?_, ?_, fun i t' ht => ?_⟩
    · rw [kU_ne (by decide), kU_ne (by decide)]; exact hs.2.1
    · rw [kU_eq]
      show h 36 2 + 1 = _
      rw [e2, nI_1, List.length_append]
      rfl
    · rw [kU_ne (by decide)]
      show (kU h 37 _ _) 37 i = _
      rw [kU_eq, ec]
      by_cases q : i < ts.length
      · rw [List.getElem?_append_left q] at ht
        show (if i = ts.length then _ else h 37 i) = _
        rw [if_neg (by omega)]
        exact hs.2.2.2 i t' ht
      · rw [List.getElem?_append_right (by omega)] at ht
        have q2 : i = ts.length := by
          have q3 := (List.getElem?_eq_some_iff.mp ht).1
          have q4 : ([t] : List (Int32 × Int32)).length = 1 := rfl
          omega
        subst q2
        rw [Nat.sub_self] at ht
        have ht2 : t = t' := Option.some.inj ht
        subst ht2
        show (if ts.length = ts.length then _ else h 37 _) = _
        rw [if_pos rfl]
theorem cAddB (hd : 1 ≤ d) {a : Nat} {x : Int32} (hs : cBad h0 h L u a) (k : ∀ h', cBad h0 h' L u a → Q 0 h') : Cal G d m_X6_add [.ref 36, .int x] h Q := by
  obtain ⟨n, hn, e2⟩ := hs.2.2
  refine cg_X6_add hd kTxt_is36 ⟨fun c => k h hs, fun c => ?_⟩
  have hn2 : n < 60 := by
    rw [e2] at c
    by_cases q : n < 60
    · exact q
    · exact absurd (nI_le (a := 60) (b := n) (by omega) (by omega)) c
  refine ⟨by rw [e2]; exact vp_in_nI hn2 (by decide), fun h3 e3 h4 e4 => k h4 ?_⟩
  have e36 : h3 36 = h 36 := by rw [e3, kU_ne (by decide)]
  rw [e36] at e4
  rw [e3] at e4
  subst e4
  refine ⟨hs.1.add, ?_, n + 1, hn2, ?_⟩
  · rw [kU_ne (by decide), kU_ne (by decide)]; exact hs.2.1
  · rw [kU_eq]
    show h 36 2 + 1 = _
    rw [e2, nI_1]
theorem cEnd.good {h : kM} {b : Nat} {us ts : List (Int32 × Int32)} (e : cSt h0 h L u b (ts ++ us)) : cEnd h0 h L u (b, some us) ts := e
theorem kIx_ok {u : Int32} (hu : u = 0 ∨ u = 1) {k : Nat} (hk : k < 256) : (((nI k).toUInt32 % 65536).toInt32 = nI k) ∧ (mNm u (nI k) → 0 ≤ kIx u (nI k) ∧ kIx u (nI k) = kNmI u (nI k)) ∧ (¬ mNm u (nI k) → ¬ 0 ≤ kIx u (nI k)) := by
  have hA : ∀ k, k < 256 → (((nI k).toUInt32 % 65536).toInt32 = nI k) ∧ (mNm 0 (nI k) → 0 ≤ kIx 0 (nI k) ∧ kIx 0 (nI k) = kNmI 0 (nI k)) ∧ (¬ mNm 0 (nI k) → ¬ 0 ≤ kIx 0 (nI k)) := by decide +kernel
  have hB : ∀ k, k < 256 → (((nI k).toUInt32 % 65536).toInt32 = nI k) ∧ (mNm 1 (nI k) → 0 ≤ kIx 1 (nI k) ∧ kIx 1 (nI k) = kNmI 1 (nI k)) ∧ (¬ mNm 1 (nI k) → ¬ 0 ≤ kIx 1 (nI k)) := by decide +kernel
  rcases hu with rfl | rfl
  · exact hA k hk
  · exact hB k hk
theorem mNm_m1 {u : Int32} : ¬ mNm u (-1) := by
  intro c
  rcases c with w | ⟨-, w | w⟩ | ⟨-, w | w⟩ <;> exact absurd w (by decide)
theorem cName (hd : 7 ≤ d) (hy : cHy h0 T L u) {a : Nat} {ts : List (Int32 × Int32)} (hs : cSt h0 h L u a ts) (ha : a ≤ L) (hl : ts.length ≤ a) {c : Int32} (hc : c = rNx T L a) (k : ∀ h', cEnd h0 h' L u (if mNm u c then (a + 1, some [(1, c)]) else (a, none)) ts → Q 0 h') : Cal G d m_X1_readName [.ref 35, .int c] h Q := by
  have hL := hy.1
  refine cg_X1_readName hd ⟨fun n1 => ⟨by rw [hs.1.2.2.1]; exact hy.2.2.1, ?_⟩, fun e1 h8 e8 => k h8 ?_⟩
  · have hlt : a < L := rNx_lt (by rw [← hc]; exact n1)
    obtain ⟨j, hj, ej⟩ := hy.2.2.2 a hlt
    have ec : c = nI j := by
      rw [hc]
      unfold rNx
      rw [if_pos hlt, ej]
    obtain ⟨x1, x2, x3⟩ := kIx_ok hy.2.2.1 hj
    rw [← ec] at x1 x2 x3
    rw [hs.1.2.2.1, x1]
    refine ⟨fun c1 => ?_, fun c1 h7 e7 => k h7 ?_⟩
    · have hm : mNm u c := by
        by_cases q : mNm u c
        · exact q
        · exact absurd c1 (x3 q)
      rw [if_pos hm] at k
      refine cAddS (t := (1, c)) (by omega) hs (by omega) ?_ (fun h5 s5 h6 e6 => k h6 (s5.adv e6))
      rw [(x2 hm).2]
      rfl
    · rw [if_neg (fun q => c1 (x2 q).1)]
      exact hs.stuck (by omega) e7
  · rw [e1, if_neg mNm_m1]
    exact hs.stuck (by omega) e8
theorem kdg {c : Int32} : ¬ kb (48 ≤ c ∧ c ≤ 57) = 0 ↔ 48 ≤ c ∧ c ≤ 57 := kb_n0
theorem cNum (hd : 2 ≤ d) (hy : cHy h0 T L u) {ts : List (Int32 × Int32)} (hl : ts.length < 60) : ∀ (n : Nat) (v : Int32) (a : Nat) (h : kM), n ≤ 4 → a ≤ L → cSt h0 h L u a ts → (∀ h', cSt h0 h' L u (rNum T L n v a).2 (ts ++ [(0, (rNum T L n v a).1)]) → Q 0 h') → at_X1_readNumber_4 G d Q v (nI (4 - n)) h
  | 0, v, a, h, hn, ha, hs, k => sg_X1_readNumber_4 hd ⟨fun _ => cAddS (t := (0, v)) (by omega) hs hl rfl k, fun c => absurd (by decide) c⟩
  | n + 1, v, a, h, hn, ha, hs, k => by
    have eN : rNum T L (n + 1) v a = if 48 ≤ rNx T L a ∧ rNx T L a ≤ 57 then rNum T L n (10 * v + rNx T L a - 48) (a + 1) else (v, a) := rfl
    refine sg_X1_readNumber_4 hd ⟨fun c => ?_, fun _ => ⟨hs.1.okN hy ha, ?_⟩⟩
    · have c2 := (nI_leI (a := 4) (b := 4 - (n + 1)) (by decide) (by omega)).mp c
      omega
    rw [hs.1.nx hy ha]
    refine ⟨fun c => ?_, fun c => ⟨hs.1.okN hy ha, fun h9 e9 => ?_⟩⟩
    · rw [eN, if_neg (kb_0.mp c)] at k
      exact cAddS (t := (0, v)) (by omega) hs hl rfl k
    · have c2 := kdg.mp c
      have hlt : a < L := rNx_lt fun q => by rw [q] at c2; exact absurd c2.1 (by decide)
      rw [eN, if_pos c2] at k
      have e1 : nI (4 - (n + 1)) + 1 = nI (4 - n) := by
        rw [nI_1]
        congr 1
        omega
      rw [e1]
      exact cNum hd hy hl n _ (a + 1) h9 (by omega) hlt (hs.adv e9) k
def cLv (G : kG) (h0 : kM) (T : Nat → Int32) (L : Nat) (u : Int32) (f : Nat) : Prop := ∀ (d : Nat) (Q : Int32 → kM → Prop) (h : kM) (a : Nat) (ts : List (Int32 × Int32)) (l o : Nat), l ≤ 5 → o ≤ 5 → f = 6 * (5 - o) + (5 - l) → 3 * f + 13 ≤ d → cSt h0 h L u a ts → a ≤ L → ts.length ≤ a → (∀ h', cEnd h0 h' L u (rP T L u f a) ts → Q 0 h') → Cal G d m_X1_readLevel [.ref 35, .int (nI l), .int (nI o)] h Q
def cOp (G : kG) (h0 : kM) (T : Nat → Int32) (L : Nat) (u : Int32) (f : Nat) : Prop := ∀ (d : Nat) (Q : Int32 → kM → Prop) (h : kM) (a : Nat) (ts : List (Int32 × Int32)) (o : Nat), o ≤ 5 → f = 6 * (5 - o) → 3 * f + 12 ≤ d → cSt h0 h L u a ts → a ≤ L → ts.length ≤ a → (∀ h', cEnd h0 h' L u (rP T L u f a) ts → Q 0 h') → Cal G d m_X1_readOperand [.ref 35, .int (nI o)] h Q
theorem cOp_of {f : Nat} (hy : cHy h0 T L u) (ihL : ∀ g, g < f → cLv G h0 T L u g) (ihO : ∀ g, g < f → cOp G h0 T L u g) : cOp G h0 T L u f := by
  intro d Q h a ts o ho hf hd hs ha hl k
  have hL := hy.1
  rw [rP_one (by omega)] at k
  have eo : nI o + 1 = nI (o + 1) := nI_1 o
  have o5 : (5 : Int32) ≤ nI o ↔ ¬ 6 ≤ f := by
    have e5 : (5 : Int32) = nI 5 := rfl
    rw [e5, nI_leI (by decide) (by omega)]
    omega
  refine cg_X1_readOperand (by omega) ⟨hs.1.okN hy ha, ?_⟩
  rw [hs.1.nx hy ha]
  unfold rOne at k
  refine ⟨fun c => ?_, fun c => ?_⟩
  · rw [if_neg (kb_0.mp c)] at k
    refine ⟨fun c1 => ⟨fun c2 => ?_, fun c2 h7 e7 => ?_⟩, fun c1 => ⟨fun c2 => ?_, fun c2 => ⟨fun c3 => ?_, fun c3 h16 e16 => ?_⟩⟩⟩
    · have hf6 : ¬ 6 ≤ f := o5.mp c2
      rw [if_neg (fun q => hf6 q.2), if_neg (fun q => hf6 q.2)] at k
      exact cName (by omega) hy hs ha hl rfl k
    · have hf6 : 6 ≤ f := Decidable.not_not.mp fun q => c2 (o5.mpr q)
      rw [if_pos ⟨c1, hf6⟩] at k
      have hlt : a < L := rNx_lt fun q => by rw [q] at c1; exact absurd c1 (by decide)
      rw [eo, c1]
      refine cg_X1_readOpened (by omega) ⟨fun q => absurd rfl q, fun _ => ?_⟩
      have hg := rP_good (T := T) (u := u) (f - 6 + 1) (f - 6) (by omega) (a + 1) hlt
      refine ihO (f - 6) (by omega) (d - 1 - 1) _ h7 (a + 1) ts (o + 1) (by omega) (by omega) (by omega) (hs.adv e7) hlt (by omega) (fun h' s' => ?_)
      generalize rP T L u (f - 6) (a + 1) = r at k s' hg
      obtain ⟨b, z⟩ := r
      cases z with
      | none => exact cAddB (by omega) s' k
      | some us =>
        obtain ⟨g1, g2, g3⟩ := hg
        have g4 := (g3 us rfl).1
        have g4' : us.length + (a + 1) ≤ b := g4
        have g2' : b ≤ L := g2
        refine cAddS (t := (2, 0)) (by omega) s' (by rw [List.length_append]; omega) rfl (fun h1 s1 => k h1 ?_)
        show cSt h0 h1 L u b (ts ++ (us ++ [(2, 0)]))
        rw [← List.append_assoc]
        exact s1
    · rw [if_neg (fun q => c1 q.1), if_neg (fun q => c2 q.1)] at k
      exact cName (by omega) hy hs ha hl rfl k
    · have hf6 : ¬ 6 ≤ f := o5.mp c3
      rw [if_neg (fun q => hf6 q.2), if_neg (fun q => hf6 q.2)] at k
      exact cName (by omega) hy hs ha hl rfl k
    · have hf6 : 6 ≤ f := Decidable.not_not.mp fun q => c3 (o5.mpr q)
      rw [if_neg (fun q => c1 q.1), if_pos ⟨c2, hf6⟩] at k
      have hlt : a < L := rNx_lt fun q => by rw [q] at c2; exact absurd c2 (by decide)
      rw [eo, c2]
      refine cg_X1_readOpened (by omega) ⟨fun _ => ?_, fun q => absurd q (by decide)⟩
      have hg := rP_good (T := T) (u := u) (f - 1 + 1) (f - 1) (by omega) (a + 1) hlt
      refine ihL (f - 1) (by omega) (d - 1 - 1) _ h16 (a + 1) ts 0 (o + 1) (by omega) (by omega) (by omega) (by omega) (hs.adv e16) hlt (by omega) (fun h' s' => ?_)
      generalize rP T L u (f - 1) (a + 1) = r at k s' hg
      obtain ⟨b, z⟩ := r
      cases z with
      | none => exact ⟨fun _ h5 e5 => k h5 (cBad.stuck s' e5), fun q => absurd q (by rw [s'.2.1]; decide)⟩
      | some us =>
        obtain ⟨g1, g2, g3⟩ := hg
        have g4 := (g3 us rfl).1
        have g4' : us.length + (a + 1) ≤ b := g4
        have g2' : b ≤ L := g2
        have s2 : cSt h0 h' L u b (ts ++ us) := s'
        refine ⟨fun q => absurd s2.2.1 q, fun _ => ⟨s2.1.okN hy g2', ?_⟩⟩
        rw [s2.1.nx hy g2']
        refine ⟨fun q h8 e8 => k h8 ?_, fun q h9 e9 => k h9 ?_⟩
        · show cEnd h0 h8 L u (if rNx T L b = 41 then (b + 1, some us) else (b, none)) ts
          rw [if_pos q]
          exact s2.adv e8
        · show cEnd h0 h9 L u (if rNx T L b = 41 then (b + 1, some us) else (b, none)) ts
          rw [if_neg q]
          exact s2.stuck (by rw [List.length_append]; omega) e9
  · rw [if_pos (kdg.mp c)] at k
    have c2 := (kdg.mp c).1
    have hlt : a < L := rNx_lt fun q => by rw [q] at c2; exact absurd c2 (by decide)
    exact cg_X1_readNumber (by omega) (cNum (by omega) hy (by omega) 4 0 a h (by decide) ha hs k)
end CRead

