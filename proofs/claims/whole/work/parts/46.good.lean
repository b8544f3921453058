/-! what the reading keeps -/
theorem rNx_lt {T : Nat → Int32} {L a : Nat} (h : ¬ rNx T L a = -1) : a < L := by
  by_cases e : a < L
  · exact e
  · exact absurd (if_neg e) h
theorem i32_tr {x y : Int32} (h1 : x ≤ y) (h2 : y < x) : False := by
  rw [Int32.le_iff_toInt_le] at h1
  rw [Int32.lt_iff_toInt_lt] at h2
  omega
theorem dg_of {c : Int32} (h1 : 48 ≤ c) (h2 : c ≤ 57) : ∃ k, 48 ≤ k ∧ k ≤ 57 ∧ c = nI k := by
  have h3 : ¬ c < 0 := by
    intro q
    rw [Int32.lt_iff_toInt_lt] at q
    rw [Int32.le_iff_toInt_le] at h1
    have e : (48 : Int32).toInt = 48 := by decide
    have e0 : (0 : Int32).toInt = 0 := by decide
    omega
  obtain ⟨j, hj, rfl⟩ := nI_of2 (M := 57) (n := 57) (by decide) h3 h2
  refine ⟨j, ?_, hj, rfl⟩
  have e : nI 48 ≤ nI j := h1
  exact (nI_leI (by decide) (by omega)).mp e
theorem dg_step {m k : Nat} (h1 : 48 ≤ k) : 10 * nI m + nI k - 48 = nI (10 * m + (k - 48)) := by
  have e1 : (10 : Int32) * nI m = nI (10 * m) := (Int32.ofNat_mul 10 m).symm
  have e2 : nI (10 * m + k) = nI (10 * m + (k - 48)) + nI 48 := by
    rw [nI_add]
    congr 1
    omega
  rw [e1, nI_add, e2]
  exact Int32.add_sub_cancel _ _
theorem rNum_ok {T : Nat → Int32} {L : Nat} : ∀ (n m a : Nat), n ≤ 4 → m ≤ 9999 / 10 ^ n → a ≤ L → ∃ m', m' ≤ 9999 ∧ (rNum T L n (nI m) a).1 = nI m' ∧ a ≤ (rNum T L n (nI m) a).2 ∧ (rNum T L n (nI m) a).2 ≤ L
  | 0, m, a, _, hm, ha => ⟨m, by simpa using hm, rfl, Nat.le_refl _, ha⟩
  | n + 1, m, a, hn, hm, ha => by
    have hB : ∀ n, n < 4 → 10 * (9999 / 10 ^ (n + 1)) + 9 ≤ 9999 / 10 ^ n := by decide +kernel
    have hC : ∀ n, n < 5 → 9999 / 10 ^ n ≤ 9999 := by decide +kernel
    have hb := hB n (by omega)
    show ∃ m', m' ≤ 9999 ∧ (if 48 ≤ rNx T L a ∧ rNx T L a ≤ 57 then rNum T L n (10 * nI m + rNx T L a - 48) (a + 1) else (nI m, a)).1 = nI m' ∧ a ≤ (if 48 ≤ rNx T L a ∧ rNx T L a ≤ 57 then rNum T L n (10 * nI m + rNx T L a - 48) (a + 1) else (nI m, a)).2 ∧ (if 48 ≤ rNx T L a ∧ rNx T L a ≤ 57 then rNum T L n (10 * nI m + rNx T L a - 48) (a + 1) else (nI m, a)).2 ≤ L
    by_cases c : 48 ≤ rNx T L a ∧ rNx T L a ≤ 57
    · rw [if_pos c]
      have hl : a < L := rNx_lt fun q => by rw [q] at c; exact absurd c.1 (by decide)
      obtain ⟨k, k1, k2, ek⟩ := dg_of c.1 c.2
      rw [ek, dg_step k1]
      obtain ⟨m', q1, q2, q3, q4⟩ := rNum_ok (T := T) (L := L) n (10 * m + (k - 48)) (a + 1) (by omega) (by omega) (by omega)
      exact ⟨m', q1, q2, by omega, q4⟩
    · rw [if_neg c]
      have hc := hC (n + 1) (by omega)
      exact ⟨m, by omega, rfl, Nat.le_refl _, ha⟩
theorem kLvl_op {c : Int32} (h : ¬ kLvl c = 5) : c = 124 ∨ c = 38 ∨ c = 60 ∨ c = 61 ∨ c = 62 ∨ c = 43 ∨ c = 45 ∨ c = 42 ∨ c = 47 ∨ c = 37 := by
  unfold kLvl at h
  by_cases e1 : c = 124
  · exact Or.inl e1
  rw [if_neg e1] at h
  by_cases e2 : c = 38
  · exact Or.inr (Or.inl e2)
  rw [if_neg e2] at h
  by_cases e3 : c = 60 ∨ c = 61 ∨ c = 62
  · rcases e3 with e | e | e <;> simp [e]
  rw [if_neg e3] at h
  by_cases e4 : c = 43 ∨ c = 45
  · rcases e4 with e | e <;> simp [e]
  rw [if_neg e4] at h
  by_cases e5 : c = 42 ∨ c = 47 ∨ c = 37
  · rcases e5 with e | e | e <;> simp [e]
  rw [if_neg e5] at h
  exact absurd rfl h
theorem kLvl_m1 : kLvl (-1) = 5 := by decide
/-- one token's step -/
theorem kHt1_num {u : Int32} {m k : Nat} (hm : m ≤ 9999) : kHt1 (kEncT u (0, nI m)) k = some (k + 1) := by
  have e : kEncT u (0, nI m) = nI m := by
    show (if (0 : Int32) = 0 then nI m else if (0 : Int32) = 1 then 10000 + kNmI u (nI m) else if (0 : Int32) = 2 then -33 else -(nI m)) = _
    exact if_pos rfl
  rw [e]
  unfold kHt1
  have h0 : 0 ≤ nI m := nI_pos' (by omega)
  rw [if_neg (fun q => by rw [q] at h0; exact absurd h0 (by decide)), if_pos h0]
theorem kHt1_nm {u c : Int32} {k : Nat} : kHt1 (kEncT u (1, c)) k = some (k + 1) := by
  have e : kEncT u (1, c) = 10000 + kNmI u c := rfl
  rw [e]
  have hn : kNmI u c = 0 ∨ kNmI u c = 1 ∨ kNmI u c = 2 := by
    unfold kNmI
    split
    · split
      · exact Or.inl rfl
      · split
        · exact Or.inr (Or.inl rfl)
        · exact Or.inr (Or.inr rfl)
    · split
      · exact Or.inl rfl
      · split
        · exact Or.inr (Or.inl rfl)
        · exact Or.inr (Or.inr rfl)
  rcases hn with q | q | q <;> rw [q] <;> rfl
theorem kHt1_not {u : Int32} {k : Nat} : kHt1 (kEncT u (2, 0)) (k + 1) = some (k + 1) := by
  have e : kEncT u (2, 0) = -33 := rfl
  rw [e]
  unfold kHt1
  rw [if_pos rfl, if_pos (Nat.succ_pos k)]
theorem kHt1_sg {u c : Int32} {k : Nat} (h : ¬ kLvl c = 5) : kHt1 (kEncT u (3, c)) (k + 2) = some (k + 1) := by
  have e : kEncT u (3, c) = -c := rfl
  rw [e]
  have e2 : ¬ -c = -33 ∧ ¬ 0 ≤ -c := by
    rcases kLvl_op h with q | q | q | q | q | q | q | q | q | q <;> subst q <;> decide
  unfold kHt1
  rw [if_neg e2.1, if_neg e2.2, if_pos (by omega)]
  rfl
theorem rGood.none {L : Nat} {u : Int32} {a b : Nat} (h1 : a ≤ b) (h2 : b ≤ L) : rGood L u a (b, none) := ⟨h1, h2, fun ts q => by cases q⟩
theorem rGood.back {L : Nat} {u : Int32} {a a' : Nat} {r : kRes} (h : rGood L u a r) (ha : a' ≤ a) : a' ≤ r.1 ∧ r.1 ≤ L := ⟨Nat.le_trans ha h.1, h.2.1⟩
theorem rOne_good {T : Nat → Int32} {L : Nat} {u : Int32} {f a : Nat} (ha : a ≤ L) (R : Nat → Nat → kRes) (ih : ∀ g, g < f → ∀ b, b ≤ L → rGood L u b (R g b)) : rGood L u a (rOne T L u R f a) := by
  unfold rOne
  by_cases c1 : 48 ≤ rNx T L a ∧ rNx T L a ≤ 57
  · rw [if_pos c1]
    have hl : a < L := rNx_lt fun q => by rw [q] at c1; exact absurd c1.1 (by decide)
    obtain ⟨k, k1, k2, ek⟩ := dg_of c1.1 c1.2
    have e0 : rNum T L 4 0 a = rNum T L 3 (nI (10 * 0 + (k - 48))) (a + 1) := by
      show (if 48 ≤ rNx T L a ∧ rNx T L a ≤ 57 then rNum T L 3 (10 * nI 0 + rNx T L a - 48) (a + 1) else (0, a)) = _
      rw [if_pos c1, ek, dg_step k1]
    have h9 : 9999 / 10 ^ 3 = 9 := by decide
    obtain ⟨m', q1, q2, q3, q4⟩ := rNum_ok (T := T) (L := L) 3 (10 * 0 + (k - 48)) (a + 1) (by omega) (by rw [h9]; omega) (by omega)
    rw [e0]
    refine ⟨by show a ≤ (rNum T L 3 (nI (10 * 0 + (k - 48))) (a + 1)).2; omega, q4, fun ts q => ?_⟩
    cases q
    rw [q2]
    refine ⟨by show 1 + a ≤ (rNum T L 3 (nI (10 * 0 + (k - 48))) (a + 1)).2; omega, fun t ht => ?_, fun k => ?_⟩
    · rw [List.mem_singleton.mp ht]
      exact Or.inl ⟨rfl, nI_pos' (by omega), nI_le (b := 9999) q1 (by decide)⟩
    · show (kHt1 (kEncT u (0, nI m')) k).bind (kHl u []) = _
      rw [kHt1_num q1]
      rfl
  rw [if_neg c1]
  by_cases c2 : rNx T L a = 33 ∧ 6 ≤ f
  · rw [if_pos c2]
    have hl : a < L := rNx_lt fun q => by rw [q] at c2; exact absurd c2.1 (by decide)
    obtain ⟨g1, g2, g3⟩ := ih (f - 6) (by omega) (a + 1) (by omega)
    refine ⟨Nat.le_trans (Nat.le_succ a) g1, g2, fun ts q => ?_⟩
    cases e : (R (f - 6) (a + 1)).2 with
    | none =>
      rw [show (R (f - 6) (a + 1)).2.map (fun ts => ts ++ [(2, 0)]) = none by rw [e]; rfl] at q
      cases q
    | some us =>
      rw [show (R (f - 6) (a + 1)).2.map (fun ts => ts ++ [(2, 0)]) = some (us ++ [(2, 0)]) by rw [e]; rfl] at q
      cases q
      obtain ⟨p1, p2, p3⟩ := g3 us e
      refine ⟨by rw [List.length_append]; show us.length + 1 + a ≤ (R (f - 6) (a + 1)).1; omega, fun t ht => ?_, fun k => ?_⟩
      · rcases List.mem_append.mp ht with w | w
        · exact p2 t w
        · rw [List.mem_singleton.mp w]
          exact Or.inr (Or.inr (Or.inl rfl))
      · rw [kHl_app, p3 k]
        show (kHt1 (kEncT u (2, 0)) (k + 1)).bind (kHl u []) = _
        rw [kHt1_not]
        rfl
  rw [if_neg c2]
  by_cases c3 : rNx T L a = 40 ∧ 6 ≤ f
  · rw [if_pos c3]
    have hl : a < L := rNx_lt fun q => by rw [q] at c3; exact absurd c3.1 (by decide)
    have hg := ih (f - 1) (by omega) (a + 1) (by omega)
    cases e : R (f - 1) (a + 1) with
    | mk b o =>
      rw [e] at hg
      obtain ⟨g1, g2, g3⟩ := hg
      have g1' : a + 1 ≤ b := g1
      have g2' : b ≤ L := g2
      cases o with
      | none => exact rGood.none (by omega) g2'
      | some us =>
        show rGood L u a (if rNx T L b = 41 then (b + 1, some us) else (b, none))
        by_cases c4 : rNx T L b = 41
        · rw [if_pos c4]
          have hl2 : b < L := rNx_lt fun q => by rw [q] at c4; exact absurd c4 (by decide)
          obtain ⟨p1, p2, p3⟩ := g3 us rfl
          have p1' : us.length + (a + 1) ≤ b := p1
          refine ⟨by show a ≤ b + 1; omega, hl2, fun ts q => ?_⟩
          cases q
          exact ⟨by show us.length + a ≤ b + 1; omega, p2, p3⟩
        · rw [if_neg c4]
          exact rGood.none (by omega) g2'
  rw [if_neg c3]
  by_cases c5 : mNm u (rNx T L a)
  · rw [if_pos c5]
    have hl : a < L := rNx_lt fun q => by
      rw [q] at c5
      rcases c5 with w | ⟨-, w | w⟩ | ⟨-, w | w⟩ <;> exact absurd w (by decide)
    refine ⟨by show a ≤ a + 1; omega, hl, fun ts q => ?_⟩
    cases q
    refine ⟨by show 1 + a ≤ a + 1; omega, fun t ht => ?_, fun k => ?_⟩
    · rw [List.mem_singleton.mp ht]
      exact Or.inr (Or.inl ⟨rfl, c5⟩)
    · show (kHt1 (kEncT u (1, rNx T L a)) k).bind (kHl u []) = _
      rw [kHt1_nm]
      rfl
  rw [if_neg c5]
  exact rGood.none (Nat.le_refl _) ha
theorem rLoop_good {T : Nat → Int32} {L : Nat} {u l : Int32} {S : Nat → kRes} (hl5 : ¬ l = 5) (ih : ∀ b, b ≤ L → rGood L u b (S b)) : ∀ (k a0 a : Nat) (ts : List (Int32 × Int32)), rGood L u a0 (a, some ts) → rGood L u a0 (rLoop T L l S k a ts)
  | 0, a0, a, ts, h => h
  | k + 1, a0, a, ts, h => by
    show rGood L u a0 (if kLvl (rNx T L a) = l then (match S (a + 1) with
      | (b, none) => (b, none)
      | (b, some us) => rLoop T L l S k b (ts ++ us ++ [(3, rNx T L a)])) else (a, some ts))
    by_cases c : kLvl (rNx T L a) = l
    · rw [if_pos c]
      have c5 : ¬ kLvl (rNx T L a) = 5 := by rw [c]; exact hl5
      have hlt : a < L := rNx_lt fun q => c5 (by rw [q]; exact kLvl_m1)
      have hg := ih (a + 1) (by omega)
      obtain ⟨h1, h2, h3⟩ := h
      have h1' : a0 ≤ a := h1
      cases e : S (a + 1) with
      | mk b o =>
        rw [e] at hg
        obtain ⟨g1, g2, g3⟩ := hg
        have g1' : a + 1 ≤ b := g1
        have g2' : b ≤ L := g2
        cases o with
        | none => exact rGood.none (by omega) g2'
        | some us =>
          refine rLoop_good hl5 ih k a0 b _ ⟨by show a0 ≤ b; omega, g2', fun vs q => ?_⟩
          cases q
          obtain ⟨p1, p2, p3⟩ := g3 us rfl
          obtain ⟨q1, q2, q3⟩ := h3 ts rfl
          have p1' : us.length + (a + 1) ≤ b := p1
          have q1' : ts.length + a0 ≤ a := q1
          refine ⟨?_, fun t ht => ?_, fun k => ?_⟩
          · rw [List.length_append, List.length_append]
            show ts.length + us.length + 1 + a0 ≤ b
            omega
          · rcases List.mem_append.mp ht with w | w
            · rcases List.mem_append.mp w with w | w
              · exact q2 t w
              · exact p2 t w
            · rw [List.mem_singleton.mp w]
              exact Or.inr (Or.inr (Or.inr ⟨rfl, kLvl_op c5⟩))
          · rw [kHl_app, kHl_app, q3 k]
            show ((kHl u us (k + 1)).bind (kHl u [(3, rNx T L a)])) = _
            rw [p3 (k + 1)]
            show (kHt1 (kEncT u (3, rNx T L a)) (k + 2)).bind (kHl u []) = _
            rw [kHt1_sg c5]
            rfl
    · rw [if_neg c]
      exact h
theorem nI_n5 {f : Nat} (hf : ¬ f % 6 = 0) : ¬ nI (5 - f % 6) = 5 := by
  intro q
  have e := (nI_eq (a := 5 - f % 6) (b := 5) (by omega) (by decide)).mp q
  omega
theorem rP_good {T : Nat → Int32} {L : Nat} {u : Int32} : ∀ (n f : Nat), f < n → ∀ a, a ≤ L → rGood L u a (rP T L u f a)
  | 0, f, hf, a, ha => absurd hf (by omega)
  | n + 1, f, hf, a, ha => by
    have ih : ∀ g, g < f → ∀ b, b ≤ L → rGood L u b (rP T L u g b) := fun g hg b hb => rP_good n g (by omega) b hb
    by_cases c : f % 6 = 0
    · rw [rP_one c]
      exact rOne_good ha _ ih
    · rw [rP_lvl c]
      have hg := ih (f - 1) (by omega) a ha
      cases e : rP T L u (f - 1) a with
      | mk b o =>
        rw [e] at hg
        cases o with
        | none => exact rGood.none hg.1 hg.2.1
        | some ts => exact rLoop_good (nI_n5 c) (fun b hb => ih (f - 1) (by omega) b hb) _ a b ts hg

