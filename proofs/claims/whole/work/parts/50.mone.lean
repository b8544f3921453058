/-! the model's levels and operands -/
section MOne
variable {G : kG} {h0 : kM} {T : Nat → Int32} {L : Nat} {u : Int32}
theorem mWhole (hy : mHy h0 T L u) {f : Nat} (hin : mSp G h0 T L u m_X8_both (f - 1) 1) : mSp G h0 T L u m_X8_whole f 0 :=
  mLevel hy (fun d Q => at_X8_whole_9 G d Q) (by decide) (by decide) hin (fun d Q h hd H => cg_X8_whole hd H)
    (fun d Q hd h ho kn ky => sg_X8_whole_9 hd ⟨ho, fun c => kn (fun q => c (kLvl_0.mp q)), fun c => (by
      have q := ky (kLvl_0.mpr c)
      rw [c] at q
      exact q)⟩)
theorem mBoth (hy : mHy h0 T L u) {f : Nat} (hin : mSp G h0 T L u m_X8_compared (f - 1) 2) : mSp G h0 T L u m_X8_both f 1 :=
  mLevel hy (fun d Q => at_X8_both_9 G d Q) (by decide) (by decide) hin (fun d Q h hd H => cg_X8_both hd H)
    (fun d Q hd h ho kn ky => sg_X8_both_9 hd ⟨ho, fun c => kn (fun q => c (kLvl_1.mp q)), fun c => (by
      have q := ky (kLvl_1.mpr c)
      rw [c] at q
      exact q)⟩)
theorem mSum (hy : mHy h0 T L u) {f : Nat} (hin : mSp G h0 T L u m_X8_product (f - 1) 4) : mSp G h0 T L u m_X8_sum f 3 :=
  mLevel hy (fun d Q => at_X8_sum_9 G d Q) (by decide) (by decide) hin (fun d Q h hd H => cg_X8_sum hd H)
    (fun d Q hd h ho kn ky => sg_X8_sum_9 hd ⟨ho, fun c => ⟨ho, ky (kLvl_3.mpr (Or.inl c))⟩, fun c => ⟨ho, fun c2 => kn (fun q => (kLvl_3.mp q).elim c c2), fun c2 => ⟨ho, ky (kLvl_3.mpr (Or.inr c2))⟩⟩⟩)
theorem mProduct (hy : mHy h0 T L u) {f : Nat} (hin : mSp G h0 T L u m_X8_one (f - 1) 5) : mSp G h0 T L u m_X8_product f 4 :=
  mLevel hy (fun d Q => at_X8_product_9 G d Q) (by decide) (by decide) hin (fun d Q h hd H => cg_X8_product hd H)
    (fun d Q hd h ho kn ky => sg_X8_product_9 hd ⟨ho, fun c => ⟨ho, ky (kLvl_4.mpr (Or.inl c))⟩, fun c => ⟨ho, fun c2 => ⟨ho, ky (kLvl_4.mpr (Or.inr (Or.inl c2)))⟩, fun c2 => ⟨ho, fun c3 => kn (fun q => (kLvl_4.mp q).elim c (fun q => q.elim c2 c3)), fun c3 => ⟨ho, ky (kLvl_4.mpr (Or.inr (Or.inr c3)))⟩⟩⟩⟩)
theorem mCompared (hy : mHy h0 T L u) {f : Nat} (hin : mSp G h0 T L u m_X8_sum (f - 1) 3) : mSp G h0 T L u m_X8_compared f 2 := by
  intro d Q h a ts o ho ef hd hs ha hn k
  have hf6 : ¬ f % 6 = 0 := by omega
  have el : 5 - f % 6 = 2 := by omega
  have em : rMost 2 = 1 := rfl
  rw [rP_lvl hf6, el, em] at k
  have hg := rP_good (T := T) (u := u) (f - 1 + 1) (f - 1) (by omega) a ha
  refine cg_X8_compared (by omega) (hin (d - 1) _ h a ts o ho (by omega) (by omega) hs ha hn (fun x h2 s2 => ?_))
  generalize rP T L u (f - 1) a = r at k s2 hg
  obtain ⟨b, z⟩ := r
  cases z with
  | none => exact ⟨fun q => absurd s2.1 q, fun q => k 0 h2 ⟨rfl, s2.2⟩⟩
  | some us =>
    obtain ⟨g1, g2, g3⟩ := hg
    have g4 := (g3 us rfl).1
    have g4' : us.length + a ≤ b := g4
    have g2' : b ≤ L := g2
    have s3 : mSt h0 h2 b o (ts ++ us) := s2.2
    have hl2 := s3.1.look hy g2'
    have k' : ∀ x h', mEnd h0 (if kLvl (rNx T L b) = nI 2 then (match rP T L u (f - 1) (b + 1) with
      | (b', none) => (b', none)
      | (b', some vs) => (b', some (us ++ vs ++ [(3, rNx T L b)]))) else (b, some us)) o ts x h' → Q x h' := k
    have go : ∀ h6, h6 = kU h2 88 6 (h2 88 6 + 1) → kLvl (mLook h2) = nI 2 → Cal G (d - 1) m_X8_sum [.ref 88] h6 (fun x h8 => (¬ x = 0 → okS h8 ∧ ∀ h11, h11 = mStep h8 3 (mLook h2) → Q 1 h11) ∧ (x = 0 → Q 0 h8)) := by
      intro h6 e6 c
      have c' : kLvl (rNx T L b) = nI 2 := by rw [← hl2]; exact c
      rw [if_pos c'] at k'
      refine mIter (P := fun h11 => Q 1 h11) (ts := ts) (us := us) hy hin (by decide) ho ef hd s3 g2' (by rw [List.length_append]; omega) e6 hl2.symm c (fun b' h5 e f5 => ?_) (fun b' vs h8 e s8 hb hab hn8 => ?_)
      · rw [e] at k'
        exact k' 0 h5 ⟨rfl, f5⟩
      · rw [e] at k'
        rw [hl2] at s8
        exact k' 1 h8 ⟨rfl, s8⟩
    refine ⟨fun _ => ⟨s3.1.okL hy g2', fun c h6 e6 => go h6 e6 (kLvl_2.mpr (Or.inl c)), fun c1 => ⟨fun c h6 e6 => go h6 e6 (kLvl_2.mpr (Or.inr (Or.inl c))), fun c2 => ⟨fun c h6 e6 => go h6 e6 (kLvl_2.mpr (Or.inr (Or.inr c))), fun c3 => ?_⟩⟩⟩, fun q => absurd (s2.1.symm.trans q) (by decide)⟩
    have nl : ¬ kLvl (rNx T L b) = nI 2 := by
      rw [← hl2]
      exact fun q => (kLvl_2.mp q).elim c1 (fun q => q.elim c2 c3)
    rw [if_neg nl] at k'
    exact k' 1 h2 ⟨rfl, s3⟩
theorem mNm_of {c : Int32} (h : mNm u c) : c = 109 ∨ c = 104 ∨ c = 119 ∨ c = 107 ∨ c = 110 := by
  rcases h with w | ⟨-, w | w⟩ | ⟨-, w | w⟩ <;> simp [w]
theorem mNum {d : Nat} {Q : Int32 → kM → Prop} (hd : 3 ≤ d) (hy : mHy h0 T L u) {o : Nat} {ts : List (Int32 × Int32)} {v1 : Int32} (hl : ts.length < 60) : ∀ (n : Nat) (v : Int32) (a : Nat) (h : kM), n ≤ 4 → a ≤ L → mSt h0 h a o ts → (∀ h', mSt h0 h' (rNum T L n v a).2 o (ts ++ [(0, (rNum T L n v a).1)]) → Q 1 h') → at_X8_one_46 G d Q v1 v (nI (4 - n)) h
  | 0, v, a, h, hn, ha, hs, k => sg_X8_one_46 hd ⟨fun _ => ⟨hs.okS (by omega), fun h3 e3 => k h3 (hs.step (by omega) e3)⟩, fun c => absurd (by decide) c⟩
  | n + 1, v, a, h, hn, ha, hs, k => by
    have eN : rNum T L (n + 1) v a = if 48 ≤ rNx T L a ∧ rNx T L a ≤ 57 then rNum T L n (10 * v + rNx T L a - 48) (a + 1) else (v, a) := rfl
    refine sg_X8_one_46 hd ⟨fun c => ?_, fun _ => ⟨hs.1.okL hy ha, ?_⟩⟩
    · have c2 := (nI_leI (a := 4) (b := 4 - (n + 1)) (by decide) (by omega)).mp c
      omega
    rw [hs.1.look hy ha]
    refine ⟨fun c => ⟨hs.okS (by omega), fun h7 e7 => ?_⟩, fun c => ⟨hs.1.okL hy ha, fun h9 e9 => ?_⟩⟩
    · rw [eN, if_neg (kb_0.mp c)] at k
      exact k h7 (hs.step (by omega) e7)
    · have c2 := kdg.mp c
      have hlt : a < L := rNx_lt fun q => by rw [q] at c2; exact absurd c2.1 (by decide)
      rw [eN, if_pos c2] at k
      have e1 : nI (4 - (n + 1)) + 1 = nI (4 - n) := by
        rw [nI_1]
        congr 1
        omega
      rw [e1]
      exact mNum hd hy hl n _ (a + 1) h9 (by omega) hlt (hs.adv e9) k
theorem mOpen_5 {h : kM} (e : h 88 7 = 5) : mOpen h = h := if_pos e
theorem mSt.opg {h h1 : kM} {a o : Nat} {ts : List (Int32 × Int32)} (hs : mSt h0 h a o ts) (ho : o < 5) (e : h1 = mOpen h) : mSt h0 h1 (a + 1) (o + 1) ts := by
  have n5 : ¬ h 88 7 = 5 := by
    rw [hs.2.1]
    intro q
    have q2 := (nI_eq (a := o) (b := 5) (by omega) (by decide)).mp q
    omega
  have e2 : mOpen h = kU (kU h 88 7 (h 88 7 + 1)) 88 6 (h 88 6 + 1) := if_neg n5
  rw [e2] at e
  refine (hs.opn (x := o + 1) (h1 := kU h 88 7 (h 88 7 + 1)) rfl (by rw [hs.2.1, nI_1])).adv ?_
  rw [e]
  have e3 : kU h 88 7 (h 88 7 + 1) 88 6 = h 88 6 := by rw [kU_eq, pk_un (by decide)]
  rw [e3]
theorem mOne (hy : mHy h0 T L u) {f : Nat} (ihW : ∀ g, g < f → mSp G h0 T L u m_X8_whole g 0) (ihO : ∀ g, g < f → mSp G h0 T L u m_X8_one g 5) : mSp G h0 T L u m_X8_one f 5 := by
  intro d Q h a ts o ho ef hd hs ha hn k
  have hL := hy.1
  rw [rP_one (by omega)] at k
  unfold rOne at k
  refine cg_X8_one (by omega) ⟨hs.1.okL hy ha, ?_⟩
  rw [hs.1.look hy ha, hs.1.use hy]
  have o5 : h 88 7 = 5 ↔ o = 5 := by
    have e5 : (5 : Int32) = nI 5 := rfl
    rw [hs.2.1, e5, nI_eq (by omega) (by decide)]
  refine ⟨fun c => ⟨fun c1 => ⟨fun c2 => ⟨fun c3 => ?_, fun c3 h6 e6 => ⟨fun c4 => ?_, fun c4 => ?_⟩⟩, fun c2 h15 e15 => ⟨fun c4 => ?_, fun c4 => ?_⟩⟩, fun c1 => ?_⟩, fun c h23 e23 => ?_⟩
  · rw [if_neg (kb_0.mp c1), if_neg (fun q => c2 q.1), if_neg (fun q => c3 q.1), if_neg (kb_0.mp c)] at k
    exact k 0 h ⟨rfl, hs.1⟩
  · have eo : o = 5 := o5.mp (Decidable.not_not.mp (kb_0.mp c4))
    rw [if_neg (kb_0.mp c1), if_neg (fun q => c2 q.1), if_neg (fun q => by omega), if_neg (kb_0.mp c)] at k
    rw [mOpen_5 (o5.mpr eo)] at e6
    rw [e6]
    exact k 0 h ⟨rfl, hs.1⟩
  · have eo : ¬ o = 5 := fun q => kb_n0.mp c4 (o5.mpr q)
    have hf6 : 6 ≤ f := by omega
    have hlt : a < L := rNx_lt fun q => by rw [q] at c3; exact absurd c3 (by decide)
    rw [if_neg (kb_0.mp c1), if_neg (fun q => c2 q.1), if_pos ⟨c3, hf6⟩] at k
    have hg := rP_good (T := T) (u := u) (f - 1 + 1) (f - 1) (by omega) (a + 1) hlt
    refine ihW (f - 1) (by omega) (d - 1) _ h6 (a + 1) ts (o + 1) (by omega) (by omega) (by omega) (hs.opg (by omega) e6) hlt (by omega) (fun x h9 s9 => ?_)
    generalize rP T L u (f - 1) (a + 1) = r at k s9 hg
    obtain ⟨b, z⟩ := r
    have hb : b ≤ L := hg.2.1
    cases z with
    | none => exact ⟨fun _ => k 0 h9 ⟨rfl, s9.2⟩, fun q => absurd s9.1 q⟩
    | some us =>
      have s2 : mSt h0 h9 b (o + 1) (ts ++ us) := s9.2
      have k' : ∀ x h', mEnd h0 (if rNx T L b = 41 then (b + 1, some us) else (b, none)) o ts x h' → Q x h' := k
      refine ⟨fun q => absurd (s9.1.symm.trans q) (by decide), fun _ => ⟨s2.1.okL hy hb, ?_⟩⟩
      rw [s2.1.look hy hb]
      refine ⟨fun q h13 e13 h14 e14 => ?_, fun q => ?_⟩
      · rw [if_pos q] at k'
        have s13 := s2.adv e13
        refine k' 1 h14 ⟨rfl, s13.opn (x := o) e14 ?_⟩
        rw [s13.2.1]
        exact nI_pred o
      · rw [if_neg q] at k'
        exact k' 0 h9 ⟨rfl, s2.1⟩
  · have eo : o = 5 := o5.mp (Decidable.not_not.mp (kb_0.mp c4))
    rw [if_neg (kb_0.mp c1), if_neg (fun q => by omega), if_neg (fun q => by omega), if_neg (kb_0.mp c)] at k
    rw [mOpen_5 (o5.mpr eo)] at e15
    rw [e15]
    exact k 0 h ⟨rfl, hs.1⟩
  · have eo : ¬ o = 5 := fun q => kb_n0.mp c4 (o5.mpr q)
    have hf6 : 6 ≤ f := by omega
    have hlt : a < L := rNx_lt fun q => by rw [q] at c2; exact absurd c2 (by decide)
    rw [if_neg (kb_0.mp c1), if_pos ⟨c2, hf6⟩] at k
    have hg := rP_good (T := T) (u := u) (f - 6 + 1) (f - 6) (by omega) (a + 1) hlt
    refine ihO (f - 6) (by omega) (d - 1) _ h15 (a + 1) ts (o + 1) (by omega) (by omega) (by omega) (hs.opg (by omega) e15) hlt (by omega) (fun x h18 s18 => ?_)
    generalize rP T L u (f - 6) (a + 1) = r at k s18 hg
    obtain ⟨b, z⟩ := r
    have hb : b ≤ L := hg.2.1
    cases z with
    | none => exact ⟨fun q => absurd s18.1 q, fun _ => k 0 h18 ⟨rfl, s18.2⟩⟩
    | some us =>
      have s2 : mSt h0 h18 b (o + 1) (ts ++ us) := s18.2
      have g4 := (hg.2.2 us rfl).1
      have g4' : us.length + (a + 1) ≤ b := g4
      have hn2 : (ts ++ us).length ≤ 60 := by rw [List.length_append]; omega
      refine ⟨fun _ h20 e20 => ?_, fun q => absurd (s18.1.symm.trans q) (by decide)⟩
      have s20 : mSt h0 h20 b o (ts ++ us) := s2.opn (x := o) e20 (by rw [s2.2.1]; exact nI_pred o)
      refine ⟨s20.okS hn2, fun h22 e22 => k 1 h22 ⟨rfl, ?_⟩⟩
      show mSt h0 h22 b o (ts ++ (us ++ [(2, 0)]))
      rw [← List.append_assoc]
      exact s20.step hn2 e22
  · have c2 := kdg.mp c1
    have hlt : a < L := rNx_lt fun q => by rw [q] at c2; exact absurd c2.1 (by decide)
    rw [if_pos c2] at k
    exact mNum (by omega) hy (by omega) 4 0 a h (by decide) ha hs (fun h' s' => k 1 h' ⟨rfl, s'⟩)
  · have cm := kb_n0.mp c
    have hlt : a < L := rNx_lt fun q => by rw [q] at cm; exact mNm_m1 cm
    have nd : ¬ (48 ≤ rNx T L a ∧ rNx T L a ≤ 57) ∧ ¬ rNx T L a = 33 ∧ ¬ rNx T L a = 40 := by
      rcases mNm_of cm with e | e | e | e | e <;> rw [e] <;> decide
    rw [if_neg nd.1, if_neg (fun q => nd.2.1 q.1), if_neg (fun q => nd.2.2 q.1), if_pos cm] at k
    have s2 := hs.adv e23
    exact ⟨s2.okS (by omega), fun h25 e25 => k 1 h25 ⟨rfl, s2.step (by omega) e25⟩⟩
/-- every level, by f -/
theorem mRead (hy : mHy h0 T L u) : ∀ n f, f < n → mSp G h0 T L u m_X8_whole f 0 ∧ mSp G h0 T L u m_X8_both f 1 ∧ mSp G h0 T L u m_X8_compared f 2 ∧ mSp G h0 T L u m_X8_sum f 3 ∧ mSp G h0 T L u m_X8_product f 4 ∧ mSp G h0 T L u m_X8_one f 5
  | 0, f, hf => absurd hf (by omega)
  | n + 1, f, hf => by
    have ih := fun g (hg : g < f) => mRead hy n g (by omega)
    by_cases z : f = 0
    · subst z
      refine ⟨?_, ?_, ?_, ?_, ?_, mOne hy (fun g hg => absurd hg (by omega)) (fun g hg => absurd hg (by omega))⟩ <;> exact fun d Q h a ts o ho ef => absurd ef (by omega)
    · have i := ih (f - 1) (by omega)
      exact ⟨mWhole hy i.2.1, mBoth hy i.2.2.1, mCompared hy i.2.2.2.1, mSum hy i.2.2.2.2.1, mProduct hy i.2.2.2.2.2, mOne hy (fun g hg => (ih g hg).1) (fun g hg => (ih g hg).2.2.2.2.2)⟩
end MOne

