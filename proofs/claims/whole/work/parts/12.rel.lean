/-! the relation of the two memories -/
def kNmI (u c : Int32) : Int32 := if u = 0 then (if c = 104 then 0 else if c = 119 then 1 else 2) else (if c = 107 then 0 else if c = 109 then 1 else 2)
def kEnc (u w x : Int32) : Int32 := if w = 0 then x else if w = 1 then 10000 + kNmI u x else if w = 2 then -33 else -x
def kTokOk (u w x : Int32) : Prop := (w = 0 ∧ 0 ≤ x ∧ x ≤ 9999) ∨ (w = 1 ∧ mNm u x) ∨ w = 2 ∨ (w = 3 ∧ (x = 124 ∨ x = 38 ∨ x = 60 ∨ x = 61 ∨ x = 62 ∨ x = 43 ∨ x = 45 ∨ x = 42 ∨ x = 47 ∨ x = 37))
def kHt1 (it : Int32) (k : Nat) : Option Nat := if it = -33 then (if 0 < k then some k else none) else if 0 ≤ it then some (k + 1) else if 1 < k then some (k - 1) else none
def kHt (c : Nat → Int32) : Nat → Option Nat
  | 0 => some 0
  | n + 1 => match kHt c n with
    | none => none
    | some k => kHt1 (c n) k
def kTR (u : Int32) (len : Int32) (c g : Nat → Int32) (base : Nat) : Prop := ∃ n, n ≤ 60 ∧ len = nI n ∧ g base = nI n ∧ (n = 0 ∨ kHt c n = some 1) ∧ ∀ i, i < n → kTokOk u (g (base + 1 + 2 * i)) (g (base + 2 + 2 * i)) ∧ c i = kEnc u (g (base + 1 + 2 * i)) (g (base + 2 + 2 * i))
def kShipR (v : kM) (g : Nat → Int32) (p : Nat) : Prop := ∃ c s q, c < 64 ∧ s < 3 ∧ q < 64 ∧ v 3 p = nI (64 * s + c) ∧ g (72 + 3 * p) = nI c ∧ g (74 + 3 * p) = nI s ∧ v 4 p = nI q ∧ g (73 + 3 * p) = nI q
def kKnotR (v : kM) (g : Nat → Int32) (k : Nat) : Prop := ∃ t m w, t < 7 ∧ m < 10 ∧ w < 4 ∧ v 5 k = nI t ∧ g (87 + 4 * k) = nI t ∧ v 6 k = nI m ∧ g (88 + 4 * k) = nI m ∧ v 7 k = nI w ∧ g (89 + 4 * k) = nI w ∧ v 8 k = g (90 + 4 * k)
/-- ships, hour, bytes on the tape, numbers that wait -/
def kSRn (v : kM) (g : Nat → Int32) (n H f w : Nat) : Prop :=
  (n ≤ 5 ∧ v 0 12 = nI n ∧ g 0 = nI n) ∧ (H ≤ 100000 ∧ v 0 13 = nI H ∧ g 1 = nI H) ∧ (f ≤ 60 ∧ v 0 14 = nI f ∧ g 4 = nI f) ∧ (w ≤ 24 ∧ v 0 15 = nI w ∧ g 5 = nI w) ∧ v 0 16 = g 6 ∧
  (∀ i, i < 2 → v 2 i = g (2 + i)) ∧ (∀ i, i < 64 → v 1 i = g (8 + i)) ∧ (∀ p, p < n → kShipR v g p) ∧ (∀ k, k < 3 * n → kKnotR v g k) ∧
  kTR 0 (v 11 2) (v 12) g 147 ∧ kTR 1 (v 14 2) (v 15) g 272 ∧ (∀ i, i < f → v 9 i = g (397 + i) ∧ 0 ≤ v 9 i ∧ v 9 i ≤ 255) ∧ (∀ i, i < w → v 10 i = g (457 + i))
def kSR (v : kM) (g : Nat → Int32) : Prop := ∃ n H f w, kSRn v g n H f w ∧ H ≤ 9999
def kVw (h : kM) (b : Nat) : kM := fun a => h (b + a)
def kMC (b v : Int32) : Int32 := if b = 32 then v else v &&& ((1 <<< (b &&& 31)) - 1)
def kMM (b v : Int32) : Int32 := (v <<< ((32 - b) &&& 31)) >>> ((32 - b) &&& 31)
def kShR (h : kM) (s : Nat) : Prop := (∃ n, n ≤ 24 ∧ h (79 + 2 * s) 2 = nI n ∧ h 99 s = nI n) ∧ h (79 + 2 * s) 1 = h 98 s ∧ (h 98 s = 0 ∨ h 98 s = 8 ∨ h 98 s = 16 ∨ h 98 s = 32) ∧ ∀ i, i < 24 → ∃ v, h (80 + 2 * s) i = kMC (h 98 s) v ∧ h 100 (24 * s + i) = kMM (h 98 s) v
def kTrR (h : kM) : Prop := ∃ n, n ≤ 30 ∧ h 76 1 = nI n ∧ h 88 17 = nI n ∧ ∀ i, i < n → h 77 i = h 97 i
def kRel (h : kM) : Prop := kSR (kVw h 1) (h 89) ∧ (¬ h 0 2 = 0 → kSR (kVw h 18) (h 90)) ∧ h 0 2 = h 88 4 ∧ (∀ i, i < 7 → h 87 i = h 93 i) ∧ kTrR h ∧ ∀ s, s < 4 → kShR h s
/-- which cells the relation looks at, beside the sea now -/
theorem kSR.congr {v v' : kM} {g g' : Nat → Int32} (h : kSR v g) (hv : ∀ a, a ≤ 15 → a ≠ 13 → v' a = v a) (hg : g' = g) : kSR v' g' := by
  subst hg
  obtain ⟨n, H, f, w, ⟨h1, h2, h3, h4, h5, h6, h7, h8, h9, h10, h11, h12, h13⟩, hH⟩ := h
  refine ⟨n, H, f, w, ?_, hH⟩
  unfold kSRn kShipR kKnotR at *
  simp only [hv 0 (by decide) (by decide), hv 1 (by decide) (by decide), hv 2 (by decide) (by decide), hv 3 (by decide) (by decide), hv 4 (by decide) (by decide), hv 5 (by decide) (by decide), hv 6 (by decide) (by decide), hv 7 (by decide) (by decide), hv 8 (by decide) (by decide), hv 9 (by decide) (by decide), hv 10 (by decide) (by decide), hv 11 (by decide) (by decide), hv 12 (by decide) (by decide), hv 14 (by decide) (by decide), hv 15 (by decide) (by decide)]
  exact ⟨h1, h2, h3, h4, h5, h6, h7, h8, h9, h10, h11, h12, h13⟩
/-- scratch: cells that no relation looks at -/
def kScr (a : Nat) : Prop := a = 14 ∨ a = 17 ∨ a = 31 ∨ a = 34 ∨ (35 ≤ a ∧ a ≤ 75) ∨ a = 78 ∨ a = 91 ∨ a = 92 ∨ a = 94 ∨ a = 95 ∨ a = 96 ∨ 101 ≤ a
theorem kRel.sea {h h' : kM} (hR : kRel h) (ho : ∀ a, 18 ≤ a → ¬ kScr a → a ≠ 76 → a ≠ 88 → a ≠ 89 → h' a = h a) (h0 : h' 0 2 = h 0 2) (h1 : h' 76 1 = h 76 1) (h2 : h' 88 4 = h 88 4) (h3 : h' 88 17 = h 88 17) (hs : kSR (kVw h' 1) (h' 89)) : kRel h' := by
  obtain ⟨-, r2, r3, r4, r5, r6⟩ := hR
  have ho' : ∀ a, 18 ≤ a → (a ≤ 30 ∨ a = 32 ∨ a = 33 ∨ a = 77 ∨ (79 ≤ a ∧ a ≤ 87) ∨ a = 90 ∨ a = 93 ∨ (97 ≤ a ∧ a ≤ 100)) → h' a = h a := fun a ha hb => ho a ha (by unfold kScr; omega) (by omega) (by omega) (by omega)
  refine ⟨hs, fun q => ?_, ?_, ?_, ?_, ?_⟩
  · rw [h0] at q
    refine (r2 q).congr (fun a h1 h2 => ?_) (ho' 90 (by omega) (by omega))
    exact ho' (18 + a) (by omega) (by omega)
  · rw [h0, h2, r3]
  · intro i hi
    rw [ho' 87 (by omega) (by omega), ho' 93 (by omega) (by omega)]
    exact r4 i hi
  · unfold kTrR at *
    rw [h1, h3, ho' 77 (by omega) (by omega), ho' 97 (by omega) (by omega)]
    exact r5
  · intro s hs4
    have := r6 s hs4
    unfold kShR at *
    rw [ho' (79 + 2 * s) (by omega) (by omega), ho' (80 + 2 * s) (by omega) (by omega), ho' 98 (by omega) (by omega), ho' 99 (by omega) (by omega), ho' 100 (by omega) (by omega)]
    exact this
/-- only scratch differs -/
theorem kRel.same {h h' : kM} (hR : kRel h) (ho : ∀ a, ¬ kScr a → a ≠ 0 → a ≠ 76 → a ≠ 88 → h' a = h a) (h0 : h' 0 2 = h 0 2) (h1 : h' 76 1 = h 76 1) (h2 : h' 88 4 = h 88 4) (h3 : h' 88 17 = h 88 17) : kRel h' := by
  refine hR.sea (fun a ha hs h76 h88 h89 => ho a hs (by omega) h76 h88) h0 h1 h2 h3 ?_
  refine hR.1.congr (fun a h1 h2 => ?_) (ho 89 (by unfold kScr; omega) (by omega) (by omega) (by omega))
  exact ho (1 + a) (by unfold kScr; omega) (by omega) (by omega) (by omega)
theorem kErr_ne {h : kM} {c : Nat} {e : Int32} {a : Nat} (ha : a ≠ c) : kErr h c e a = h a := kU_ne ha
/-- an error in both -/
theorem kRel.err {h : kM} (hR : kRel h) (e : Int32) : kRel (kErr (kErr h 87 e) 93 e) := by
  have ho : ∀ a, a ≠ 87 → a ≠ 93 → kErr (kErr h 87 e) 93 e a = h a := fun a h1 h2 => by rw [kErr_ne h2, kErr_ne h1]
  obtain ⟨r1, r2, r3, r4, r5, r6⟩ := hR
  refine ⟨r1.congr (fun a h1 h2 => ho (1 + a) (by omega) (by omega)) (ho 89 (by omega) (by omega)), fun q => ?_, ?_, ?_, ?_, ?_⟩
  · rw [ho 0 (by omega) (by omega)] at q
    exact (r2 q).congr (fun a h1 h2 => ho (18 + a) (by omega) (by omega)) (ho 90 (by omega) (by omega))
  · rw [ho 0 (by omega) (by omega), ho 88 (by omega) (by omega)]
    exact r3
  · intro i hi
    have e1 : kErr (kErr h 87 e) 93 e 93 = upd (h 93) e.toNatClampNeg (h 93 e.toNatClampNeg + 1) := by
      unfold kErr
      rw [kU_eq, kU_ne (by decide)]
    have e2 : kErr (kErr h 87 e) 93 e 87 = upd (h 87) e.toNatClampNeg (h 87 e.toNatClampNeg + 1) := by
      rw [kErr_ne (by decide)]
      exact kU_eq
    rw [e1, e2]
    by_cases hie : i = e.toNatClampNeg
    · subst hie
      rw [pk_us, pk_us, r4 _ hi]
    · rw [pk_un hie, pk_un hie, r4 _ hi]
  · unfold kTrR at *
    rw [ho 76 (by omega) (by omega), ho 88 (by omega) (by omega), ho 77 (by omega) (by omega), ho 97 (by omega) (by omega)]
    exact r5
  · intro s hs4
    have := r6 s hs4
    unfold kShR at *
    rw [ho (79 + 2 * s) (by omega) (by omega), ho (80 + 2 * s) (by omega) (by omega), ho 98 (by omega) (by omega), ho 99 (by omega) (by omega), ho 100 (by omega) (by omega)]
    exact this
/-- one call of both -/
def kStp (G : kG) (d : Nat) (mx mm : kMt) (av : List Value) (h : kM) : Prop := Cal G d mx (.ref 0 :: av) h (fun x h1 => Cal G d mm (.ref 88 :: av) h1 (fun y h2 => x = y ∧ kRel h2))
theorem i10 : ((1 : Int32) = 0) = False := by simp
/-- Int32 facts -/
theorem iI {x : Int32} {n : Nat} (hn : n < 2 ^ 31) (h0 : 0 ≤ x) (h1 : x < nI n) : ∃ j, j < n ∧ x = nI j := by
  have hx : vp_in x n := by
    rw [vp_in_iff]
    rw [Int32.le_iff_toInt_le] at h0
    rw [Int32.lt_iff_toInt_lt, nI_toInt hn] at h1
    have : (0 : Int32).toInt = 0 := rfl
    omega
  exact vp_in_of hx hn
theorem iLt {j n : Nat} (hj : j < n) (hn : n < 2 ^ 31) : (0 : Int32) ≤ nI j ∧ nI j < nI n := ⟨nI_pos' (by omega), nI_lt hj hn⟩
/-- 0 .. n - 1, as the model asks it -/
theorem iM {x : Int32} {n : Nat} (hn : n < 2 ^ 31) : (0 ≤ x ∧ x ≤ nI n - 1) ↔ (0 ≤ x ∧ x < nI n) := by
  have h0 : (0 : Int32).toInt = 0 := rfl
  by_cases h : n = 0
  · subst h
    constructor
    · rintro ⟨a, b⟩
      rw [Int32.le_iff_toInt_le] at a b
      have : (nI 0 - 1).toInt = -1 := rfl
      omega
    · rintro ⟨a, b⟩
      rw [Int32.le_iff_toInt_le] at a
      rw [Int32.lt_iff_toInt_lt] at b
      have : (nI 0).toInt = 0 := rfl
      omega
  · obtain ⟨m, rfl⟩ : ∃ m, n = m + 1 := ⟨n - 1, by omega⟩
    rw [nI_pred]
    constructor
    · rintro ⟨a, b⟩
      refine ⟨a, ?_⟩
      rw [Int32.le_iff_toInt_le, nI_toInt (by omega)] at b
      rw [Int32.lt_iff_toInt_lt, nI_toInt hn]
      omega
    · rintro ⟨a, b⟩
      refine ⟨a, ?_⟩
      rw [Int32.lt_iff_toInt_lt, nI_toInt hn] at b
      rw [Int32.le_iff_toInt_le, nI_toInt (by omega)]
      omega
theorem kTR.congr {u len : Int32} {c g g' : Nat → Int32} {base : Nat} (h : kTR u len c g base) (hg : ∀ j, base ≤ j → j < base + 125 → g' j = g j) : kTR u len c g' base := by
  obtain ⟨n, h1, h2, h3, h4, h5⟩ := h
  refine ⟨n, h1, h2, by rw [hg base (by omega) (by omega)]; exact h3, h4, fun i hi => ?_⟩
  rw [hg (base + 1 + 2 * i) (by omega) (by omega), hg (base + 2 + 2 * i) (by omega) (by omega)]
  exact h5 i hi
theorem kSRn.re_la {v v' : kM} {g g' : Nat → Int32} {n H f w : Nat} (hS : kSRn v g n H f w) (ev : ∀ a, a ≤ 15 → a ≠ 0 → a ≠ 13 → a ≠ 1 → v' a = v a) (e0 : ∀ s, 12 ≤ s → v' 0 s = v 0 s) (eg : ∀ j, ¬ (8 ≤ j ∧ j < 72) → g' j = g j) (c_la : ∀ i, i < 64 → v' 1 i = g' (8 + i)) : kSRn v' g' n H f w := by
  obtain ⟨s_n, s_H, s_f, s_w, s_z, s_dr, s_la, s_sh, s_kn, s_t0, s_t1, s_ta, s_wa⟩ := hS
  have e2 : v' 2 = v 2 := ev 2 (by decide) (by decide) (by decide) (by decide)
  have e3 : v' 3 = v 3 := ev 3 (by decide) (by decide) (by decide) (by decide)
  have e4 : v' 4 = v 4 := ev 4 (by decide) (by decide) (by decide) (by decide)
  have e5 : v' 5 = v 5 := ev 5 (by decide) (by decide) (by decide) (by decide)
  have e6 : v' 6 = v 6 := ev 6 (by decide) (by decide) (by decide) (by decide)
  have e7 : v' 7 = v 7 := ev 7 (by decide) (by decide) (by decide) (by decide)
  have e8 : v' 8 = v 8 := ev 8 (by decide) (by decide) (by decide) (by decide)
  have e9 : v' 9 = v 9 := ev 9 (by decide) (by decide) (by decide) (by decide)
  have e10 : v' 10 = v 10 := ev 10 (by decide) (by decide) (by decide) (by decide)
  have e11 : v' 11 = v 11 := ev 11 (by decide) (by decide) (by decide) (by decide)
  have e12 : v' 12 = v 12 := ev 12 (by decide) (by decide) (by decide) (by decide)
  have e14 : v' 14 = v 14 := ev 14 (by decide) (by decide) (by decide) (by decide)
  have e15 : v' 15 = v 15 := ev 15 (by decide) (by decide) (by decide) (by decide)
  have o12 : v' 0 12 = v 0 12 := e0 12 (by decide)
  have o13 : v' 0 13 = v 0 13 := e0 13 (by decide)
  have o14 : v' 0 14 = v 0 14 := e0 14 (by decide)
  have o15 : v' 0 15 = v 0 15 := e0 15 (by decide)
  have o16 : v' 0 16 = v 0 16 := e0 16 (by decide)
  have hn5 : n ≤ 5 := s_n.1
  have hf6 : f ≤ 60 := s_f.1
  have hw6 : w ≤ 24 := s_w.1
  have r_n : n ≤ 5 ∧ v' 0 12 = nI n ∧ g' 0 = nI n := by
    rw [o12, eg 0 (by omega)]
    exact s_n
  have r_H : H ≤ 100000 ∧ v' 0 13 = nI H ∧ g' 1 = nI H := by
    rw [o13, eg 1 (by omega)]
    exact s_H
  have r_f : f ≤ 60 ∧ v' 0 14 = nI f ∧ g' 4 = nI f := by
    rw [o14, eg 4 (by omega)]
    exact s_f
  have r_w : w ≤ 24 ∧ v' 0 15 = nI w ∧ g' 5 = nI w := by
    rw [o15, eg 5 (by omega)]
    exact s_w
  have r_z : v' 0 16 = g' 6 := by
    rw [o16, eg 6 (by omega)]
    exact s_z
  have r_dr : ∀ i, i < 2 → v' 2 i = g' (2 + i) := by
    intro i hi
    rw [e2, eg (2 + i) (by omega)]
    exact s_dr i hi
  have r_sh : ∀ p, p < n → kShipR v' g' p := by
    intro p hp
    have hp5 : p < 5 := by omega
    unfold kShipR
    rw [e3, e4, eg (72 + 3 * p) (by omega), eg (73 + 3 * p) (by omega), eg (74 + 3 * p) (by omega)]
    exact s_sh p hp
  have r_kn : ∀ k, k < 3 * n → kKnotR v' g' k := by
    intro k hk
    have hk5 : k < 15 := by omega
    unfold kKnotR
    rw [e5, e6, e7, e8, eg (87 + 4 * k) (by omega), eg (88 + 4 * k) (by omega), eg (89 + 4 * k) (by omega), eg (90 + 4 * k) (by omega)]
    exact s_kn k hk
  have r_t0 : kTR 0 (v' 11 2) (v' 12) g' 147 := by
    rw [e11, e12]
    exact s_t0.congr (fun j h1 h2 => eg j (by omega))
  have r_t1 : kTR 1 (v' 14 2) (v' 15) g' 272 := by
    rw [e14, e15]
    exact s_t1.congr (fun j h1 h2 => eg j (by omega))
  have r_ta : ∀ i, i < f → v' 9 i = g' (397 + i) ∧ 0 ≤ v' 9 i ∧ v' 9 i ≤ 255 := by
    intro i hi
    have hi6 : i < 60 := by omega
    rw [e9, eg (397 + i) (by omega)]
    exact s_ta i hi
  have r_wa : ∀ i, i < w → v' 10 i = g' (457 + i) := by
    intro i hi
    have hi6 : i < 24 := by omega
    rw [e10, eg (457 + i) (by omega)]
    exact s_wa i hi
  exact ⟨r_n, r_H, r_f, r_w, r_z, r_dr, c_la, r_sh, r_kn, r_t0, r_t1, r_ta, r_wa⟩
theorem kSRn.re_dr {v v' : kM} {g g' : Nat → Int32} {n H f w : Nat} (hS : kSRn v g n H f w) (ev : ∀ a, a ≤ 15 → a ≠ 0 → a ≠ 13 → a ≠ 2 → v' a = v a) (e0 : ∀ s, 12 ≤ s → v' 0 s = v 0 s) (eg : ∀ j, ¬ (2 ≤ j ∧ j < 4) → g' j = g j) (c_dr : ∀ i, i < 2 → v' 2 i = g' (2 + i)) : kSRn v' g' n H f w := by
  obtain ⟨s_n, s_H, s_f, s_w, s_z, s_dr, s_la, s_sh, s_kn, s_t0, s_t1, s_ta, s_wa⟩ := hS
  have e1 : v' 1 = v 1 := ev 1 (by decide) (by decide) (by decide) (by decide)
  have e3 : v' 3 = v 3 := ev 3 (by decide) (by decide) (by decide) (by decide)
  have e4 : v' 4 = v 4 := ev 4 (by decide) (by decide) (by decide) (by decide)
  have e5 : v' 5 = v 5 := ev 5 (by decide) (by decide) (by decide) (by decide)
  have e6 : v' 6 = v 6 := ev 6 (by decide) (by decide) (by decide) (by decide)
  have e7 : v' 7 = v 7 := ev 7 (by decide) (by decide) (by decide) (by decide)
  have e8 : v' 8 = v 8 := ev 8 (by decide) (by decide) (by decide) (by decide)
  have e9 : v' 9 = v 9 := ev 9 (by decide) (by decide) (by decide) (by decide)
  have e10 : v' 10 = v 10 := ev 10 (by decide) (by decide) (by decide) (by decide)
  have e11 : v' 11 = v 11 := ev 11 (by decide) (by decide) (by decide) (by decide)
  have e12 : v' 12 = v 12 := ev 12 (by decide) (by decide) (by decide) (by decide)
  have e14 : v' 14 = v 14 := ev 14 (by decide) (by decide) (by decide) (by decide)
  have e15 : v' 15 = v 15 := ev 15 (by decide) (by decide) (by decide) (by decide)
  have o12 : v' 0 12 = v 0 12 := e0 12 (by decide)
  have o13 : v' 0 13 = v 0 13 := e0 13 (by decide)
  have o14 : v' 0 14 = v 0 14 := e0 14 (by decide)
  have o15 : v' 0 15 = v 0 15 := e0 15 (by decide)
  have o16 : v' 0 16 = v 0 16 := e0 16 (by decide)
  have hn5 : n ≤ 5 := s_n.1
  have hf6 : f ≤ 60 := s_f.1
  have hw6 : w ≤ 24 := s_w.1
  have r_n : n ≤ 5 ∧ v' 0 12 = nI n ∧ g' 0 = nI n := by
    rw [o12, eg 0 (by omega)]
    exact s_n
  have r_H : H ≤ 100000 ∧ v' 0 13 = nI H ∧ g' 1 = nI H := by
    rw [o13, eg 1 (by omega)]
    exact s_H
  have r_f : f ≤ 60 ∧ v' 0 14 = nI f ∧ g' 4 = nI f := by
    rw [o14, eg 4 (by omega)]
    exact s_f
  have r_w : w ≤ 24 ∧ v' 0 15 = nI w ∧ g' 5 = nI w := by
    rw [o15, eg 5 (by omega)]
    exact s_w
  have r_z : v' 0 16 = g' 6 := by
    rw [o16, eg 6 (by omega)]
    exact s_z
  have r_la : ∀ i, i < 64 → v' 1 i = g' (8 + i) := by
    intro i hi
    rw [e1, eg (8 + i) (by omega)]
    exact s_la i hi
  have r_sh : ∀ p, p < n → kShipR v' g' p := by
    intro p hp
    have hp5 : p < 5 := by omega
    unfold kShipR
    rw [e3, e4, eg (72 + 3 * p) (by omega), eg (73 + 3 * p) (by omega), eg (74 + 3 * p) (by omega)]
    exact s_sh p hp
  have r_kn : ∀ k, k < 3 * n → kKnotR v' g' k := by
    intro k hk
    have hk5 : k < 15 := by omega
    unfold kKnotR
    rw [e5, e6, e7, e8, eg (87 + 4 * k) (by omega), eg (88 + 4 * k) (by omega), eg (89 + 4 * k) (by omega), eg (90 + 4 * k) (by omega)]
    exact s_kn k hk
  have r_t0 : kTR 0 (v' 11 2) (v' 12) g' 147 := by
    rw [e11, e12]
    exact s_t0.congr (fun j h1 h2 => eg j (by omega))
  have r_t1 : kTR 1 (v' 14 2) (v' 15) g' 272 := by
    rw [e14, e15]
    exact s_t1.congr (fun j h1 h2 => eg j (by omega))
  have r_ta : ∀ i, i < f → v' 9 i = g' (397 + i) ∧ 0 ≤ v' 9 i ∧ v' 9 i ≤ 255 := by
    intro i hi
    have hi6 : i < 60 := by omega
    rw [e9, eg (397 + i) (by omega)]
    exact s_ta i hi
  have r_wa : ∀ i, i < w → v' 10 i = g' (457 + i) := by
    intro i hi
    have hi6 : i < 24 := by omega
    rw [e10, eg (457 + i) (by omega)]
    exact s_wa i hi
  exact ⟨r_n, r_H, r_f, r_w, r_z, c_dr, r_la, r_sh, r_kn, r_t0, r_t1, r_ta, r_wa⟩
theorem kSRn.re_z {v v' : kM} {g g' : Nat → Int32} {n H f w : Nat} (hS : kSRn v g n H f w) (ev : ∀ a, a ≤ 15 → a ≠ 0 → a ≠ 13 → v' a = v a) (e0 : ∀ s, 12 ≤ s → s ≠ 16 → v' 0 s = v 0 s) (eg : ∀ j, ¬ (6 ≤ j ∧ j < 7) → g' j = g j) (c_z : v' 0 16 = g' 6) : kSRn v' g' n H f w := by
  obtain ⟨s_n, s_H, s_f, s_w, s_z, s_dr, s_la, s_sh, s_kn, s_t0, s_t1, s_ta, s_wa⟩ := hS
  have e1 : v' 1 = v 1 := ev 1 (by decide) (by decide) (by decide)
  have e2 : v' 2 = v 2 := ev 2 (by decide) (by decide) (by decide)
  have e3 : v' 3 = v 3 := ev 3 (by decide) (by decide) (by decide)
  have e4 : v' 4 = v 4 := ev 4 (by decide) (by decide) (by decide)
  have e5 : v' 5 = v 5 := ev 5 (by decide) (by decide) (by decide)
  have e6 : v' 6 = v 6 := ev 6 (by decide) (by decide) (by decide)
  have e7 : v' 7 = v 7 := ev 7 (by decide) (by decide) (by decide)
  have e8 : v' 8 = v 8 := ev 8 (by decide) (by decide) (by decide)
  have e9 : v' 9 = v 9 := ev 9 (by decide) (by decide) (by decide)
  have e10 : v' 10 = v 10 := ev 10 (by decide) (by decide) (by decide)
  have e11 : v' 11 = v 11 := ev 11 (by decide) (by decide) (by decide)
  have e12 : v' 12 = v 12 := ev 12 (by decide) (by decide) (by decide)
  have e14 : v' 14 = v 14 := ev 14 (by decide) (by decide) (by decide)
  have e15 : v' 15 = v 15 := ev 15 (by decide) (by decide) (by decide)
  have o12 : v' 0 12 = v 0 12 := e0 12 (by decide) (by decide)
  have o13 : v' 0 13 = v 0 13 := e0 13 (by decide) (by decide)
  have o14 : v' 0 14 = v 0 14 := e0 14 (by decide) (by decide)
  have o15 : v' 0 15 = v 0 15 := e0 15 (by decide) (by decide)
  have hn5 : n ≤ 5 := s_n.1
  have hf6 : f ≤ 60 := s_f.1
  have hw6 : w ≤ 24 := s_w.1
  have r_n : n ≤ 5 ∧ v' 0 12 = nI n ∧ g' 0 = nI n := by
    rw [o12, eg 0 (by omega)]
    exact s_n
  have r_H : H ≤ 100000 ∧ v' 0 13 = nI H ∧ g' 1 = nI H := by
    rw [o13, eg 1 (by omega)]
    exact s_H
  have r_f : f ≤ 60 ∧ v' 0 14 = nI f ∧ g' 4 = nI f := by
    rw [o14, eg 4 (by omega)]
    exact s_f
  have r_w : w ≤ 24 ∧ v' 0 15 = nI w ∧ g' 5 = nI w := by
    rw [o15, eg 5 (by omega)]
    exact s_w
  have r_dr : ∀ i, i < 2 → v' 2 i = g' (2 + i) := by
    intro i hi
    rw [e2, eg (2 + i) (by omega)]
    exact s_dr i hi
  have r_la : ∀ i, i < 64 → v' 1 i = g' (8 + i) := by
    intro i hi
    rw [e1, eg (8 + i) (by omega)]
    exact s_la i hi
  have r_sh : ∀ p, p < n → kShipR v' g' p := by
    intro p hp
    have hp5 : p < 5 := by omega
    unfold kShipR
    rw [e3, e4, eg (72 + 3 * p) (by omega), eg (73 + 3 * p) (by omega), eg (74 + 3 * p) (by omega)]
    exact s_sh p hp
  have r_kn : ∀ k, k < 3 * n → kKnotR v' g' k := by
    intro k hk
    have hk5 : k < 15 := by omega
    unfold kKnotR
    rw [e5, e6, e7, e8, eg (87 + 4 * k) (by omega), eg (88 + 4 * k) (by omega), eg (89 + 4 * k) (by omega), eg (90 + 4 * k) (by omega)]
    exact s_kn k hk
  have r_t0 : kTR 0 (v' 11 2) (v' 12) g' 147 := by
    rw [e11, e12]
    exact s_t0.congr (fun j h1 h2 => eg j (by omega))
  have r_t1 : kTR 1 (v' 14 2) (v' 15) g' 272 := by
    rw [e14, e15]
    exact s_t1.congr (fun j h1 h2 => eg j (by omega))
  have r_ta : ∀ i, i < f → v' 9 i = g' (397 + i) ∧ 0 ≤ v' 9 i ∧ v' 9 i ≤ 255 := by
    intro i hi
    have hi6 : i < 60 := by omega
    rw [e9, eg (397 + i) (by omega)]
    exact s_ta i hi
  have r_wa : ∀ i, i < w → v' 10 i = g' (457 + i) := by
    intro i hi
    have hi6 : i < 24 := by omega
    rw [e10, eg (457 + i) (by omega)]
    exact s_wa i hi
  exact ⟨r_n, r_H, r_f, r_w, c_z, r_dr, r_la, r_sh, r_kn, r_t0, r_t1, r_ta, r_wa⟩
theorem kSRn.re_sh {v v' : kM} {g g' : Nat → Int32} {n H f w : Nat} (hS : kSRn v g n H f w) (ev : ∀ a, a ≤ 15 → a ≠ 0 → a ≠ 13 → a ≠ 3 → a ≠ 4 → v' a = v a) (e0 : ∀ s, 12 ≤ s → v' 0 s = v 0 s) (eg : ∀ j, ¬ (72 ≤ j ∧ j < 87) → g' j = g j) (c_sh : ∀ p, p < n → kShipR v' g' p) : kSRn v' g' n H f w := by
  obtain ⟨s_n, s_H, s_f, s_w, s_z, s_dr, s_la, s_sh, s_kn, s_t0, s_t1, s_ta, s_wa⟩ := hS
  have e1 : v' 1 = v 1 := ev 1 (by decide) (by decide) (by decide) (by decide) (by decide)
  have e2 : v' 2 = v 2 := ev 2 (by decide) (by decide) (by decide) (by decide) (by decide)
  have e5 : v' 5 = v 5 := ev 5 (by decide) (by decide) (by decide) (by decide) (by decide)
  have e6 : v' 6 = v 6 := ev 6 (by decide) (by decide) (by decide) (by decide) (by decide)
  have e7 : v' 7 = v 7 := ev 7 (by decide) (by decide) (by decide) (by decide) (by decide)
  have e8 : v' 8 = v 8 := ev 8 (by decide) (by decide) (by decide) (by decide) (by decide)
  have e9 : v' 9 = v 9 := ev 9 (by decide) (by decide) (by decide) (by decide) (by decide)
  have e10 : v' 10 = v 10 := ev 10 (by decide) (by decide) (by decide) (by decide) (by decide)
  have e11 : v' 11 = v 11 := ev 11 (by decide) (by decide) (by decide) (by decide) (by decide)
  have e12 : v' 12 = v 12 := ev 12 (by decide) (by decide) (by decide) (by decide) (by decide)
  have e14 : v' 14 = v 14 := ev 14 (by decide) (by decide) (by decide) (by decide) (by decide)
  have e15 : v' 15 = v 15 := ev 15 (by decide) (by decide) (by decide) (by decide) (by decide)
  have o12 : v' 0 12 = v 0 12 := e0 12 (by decide)
  have o13 : v' 0 13 = v 0 13 := e0 13 (by decide)
  have o14 : v' 0 14 = v 0 14 := e0 14 (by decide)
  have o15 : v' 0 15 = v 0 15 := e0 15 (by decide)
  have o16 : v' 0 16 = v 0 16 := e0 16 (by decide)
  have hn5 : n ≤ 5 := s_n.1
  have hf6 : f ≤ 60 := s_f.1
  have hw6 : w ≤ 24 := s_w.1
  have r_n : n ≤ 5 ∧ v' 0 12 = nI n ∧ g' 0 = nI n := by
    rw [o12, eg 0 (by omega)]
    exact s_n
  have r_H : H ≤ 100000 ∧ v' 0 13 = nI H ∧ g' 1 = nI H := by
    rw [o13, eg 1 (by omega)]
    exact s_H
  have r_f : f ≤ 60 ∧ v' 0 14 = nI f ∧ g' 4 = nI f := by
    rw [o14, eg 4 (by omega)]
    exact s_f
  have r_w : w ≤ 24 ∧ v' 0 15 = nI w ∧ g' 5 = nI w := by
    rw [o15, eg 5 (by omega)]
    exact s_w
  have r_z : v' 0 16 = g' 6 := by
    rw [o16, eg 6 (by omega)]
    exact s_z
  have r_dr : ∀ i, i < 2 → v' 2 i = g' (2 + i) := by
    intro i hi
    rw [e2, eg (2 + i) (by omega)]
    exact s_dr i hi
  have r_la : ∀ i, i < 64 → v' 1 i = g' (8 + i) := by
    intro i hi
    rw [e1, eg (8 + i) (by omega)]
    exact s_la i hi
  have r_kn : ∀ k, k < 3 * n → kKnotR v' g' k := by
    intro k hk
    have hk5 : k < 15 := by omega
    unfold kKnotR
    rw [e5, e6, e7, e8, eg (87 + 4 * k) (by omega), eg (88 + 4 * k) (by omega), eg (89 + 4 * k) (by omega), eg (90 + 4 * k) (by omega)]
    exact s_kn k hk
  have r_t0 : kTR 0 (v' 11 2) (v' 12) g' 147 := by
    rw [e11, e12]
    exact s_t0.congr (fun j h1 h2 => eg j (by omega))
  have r_t1 : kTR 1 (v' 14 2) (v' 15) g' 272 := by
    rw [e14, e15]
    exact s_t1.congr (fun j h1 h2 => eg j (by omega))
  have r_ta : ∀ i, i < f → v' 9 i = g' (397 + i) ∧ 0 ≤ v' 9 i ∧ v' 9 i ≤ 255 := by
    intro i hi
    have hi6 : i < 60 := by omega
    rw [e9, eg (397 + i) (by omega)]
    exact s_ta i hi
  have r_wa : ∀ i, i < w → v' 10 i = g' (457 + i) := by
    intro i hi
    have hi6 : i < 24 := by omega
    rw [e10, eg (457 + i) (by omega)]
    exact s_wa i hi
  exact ⟨r_n, r_H, r_f, r_w, r_z, r_dr, r_la, c_sh, r_kn, r_t0, r_t1, r_ta, r_wa⟩
theorem kSRn.re_kn {v v' : kM} {g g' : Nat → Int32} {n H f w : Nat} (hS : kSRn v g n H f w) (ev : ∀ a, a ≤ 15 → a ≠ 0 → a ≠ 13 → a ≠ 5 → a ≠ 6 → a ≠ 7 → a ≠ 8 → v' a = v a) (e0 : ∀ s, 12 ≤ s → v' 0 s = v 0 s) (eg : ∀ j, ¬ (87 ≤ j ∧ j < 147) → g' j = g j) (c_kn : ∀ k, k < 3 * n → kKnotR v' g' k) : kSRn v' g' n H f w := by
  obtain ⟨s_n, s_H, s_f, s_w, s_z, s_dr, s_la, s_sh, s_kn, s_t0, s_t1, s_ta, s_wa⟩ := hS
  have e1 : v' 1 = v 1 := ev 1 (by decide) (by decide) (by decide) (by decide) (by decide) (by decide) (by decide)
  have e2 : v' 2 = v 2 := ev 2 (by decide) (by decide) (by decide) (by decide) (by decide) (by decide) (by decide)
  have e3 : v' 3 = v 3 := ev 3 (by decide) (by decide) (by decide) (by decide) (by decide) (by decide) (by decide)
  have e4 : v' 4 = v 4 := ev 4 (by decide) (by decide) (by decide) (by decide) (by decide) (by decide) (by decide)
  have e9 : v' 9 = v 9 := ev 9 (by decide) (by decide) (by decide) (by decide) (by decide) (by decide) (by decide)
  have e10 : v' 10 = v 10 := ev 10 (by decide) (by decide) (by decide) (by decide) (by decide) (by decide) (by decide)
  have e11 : v' 11 = v 11 := ev 11 (by decide) (by decide) (by decide) (by decide) (by decide) (by decide) (by decide)
  have e12 : v' 12 = v 12 := ev 12 (by decide) (by decide) (by decide) (by decide) (by decide) (by decide) (by decide)
  have e14 : v' 14 = v 14 := ev 14 (by decide) (by decide) (by decide) (by decide) (by decide) (by decide) (by decide)
  have e15 : v' 15 = v 15 := ev 15 (by decide) (by decide) (by decide) (by decide) (by decide) (by decide) (by decide)
  have o12 : v' 0 12 = v 0 12 := e0 12 (by decide)
  have o13 : v' 0 13 = v 0 13 := e0 13 (by decide)
  have o14 : v' 0 14 = v 0 14 := e0 14 (by decide)
  have o15 : v' 0 15 = v 0 15 := e0 15 (by decide)
  have o16 : v' 0 16 = v 0 16 := e0 16 (by decide)
  have hn5 : n ≤ 5 := s_n.1
  have hf6 : f ≤ 60 := s_f.1
  have hw6 : w ≤ 24 := s_w.1
  have r_n : n ≤ 5 ∧ v' 0 12 = nI n ∧ g' 0 = nI n := by
    rw [o12, eg 0 (by omega)]
    exact s_n
  have r_H : H ≤ 100000 ∧ v' 0 13 = nI H ∧ g' 1 = nI H := by
    rw [o13, eg 1 (by omega)]
    exact s_H
  have r_f : f ≤ 60 ∧ v' 0 14 = nI f ∧ g' 4 = nI f := by
    rw [o14, eg 4 (by omega)]
    exact s_f
  have r_w : w ≤ 24 ∧ v' 0 15 = nI w ∧ g' 5 = nI w := by
    rw [o15, eg 5 (by omega)]
    exact s_w
  have r_z : v' 0 16 = g' 6 := by
    rw [o16, eg 6 (by omega)]
    exact s_z
  have r_dr : ∀ i, i < 2 → v' 2 i = g' (2 + i) := by
    intro i hi
    rw [e2, eg (2 + i) (by omega)]
    exact s_dr i hi
  have r_la : ∀ i, i < 64 → v' 1 i = g' (8 + i) := by
    intro i hi
    rw [e1, eg (8 + i) (by omega)]
    exact s_la i hi
  have r_sh : ∀ p, p < n → kShipR v' g' p := by
    intro p hp
    have hp5 : p < 5 := by omega
    unfold kShipR
    rw [e3, e4, eg (72 + 3 * p) (by omega), eg (73 + 3 * p) (by omega), eg (74 + 3 * p) (by omega)]
    exact s_sh p hp
  have r_t0 : kTR 0 (v' 11 2) (v' 12) g' 147 := by
    rw [e11, e12]
    exact s_t0.congr (fun j h1 h2 => eg j (by omega))
  have r_t1 : kTR 1 (v' 14 2) (v' 15) g' 272 := by
    rw [e14, e15]
    exact s_t1.congr (fun j h1 h2 => eg j (by omega))
  have r_ta : ∀ i, i < f → v' 9 i = g' (397 + i) ∧ 0 ≤ v' 9 i ∧ v' 9 i ≤ 255 := by
    intro i hi
    have hi6 : i < 60 := by omega
    rw [e9, eg (397 + i) (by omega)]
    exact s_ta i hi
  have r_wa : ∀ i, i < w → v' 10 i = g' (457 + i) := by
    intro i hi
    have hi6 : i < 24 := by omega
    rw [e10, eg (457 + i) (by omega)]
    exact s_wa i hi
  exact ⟨r_n, r_H, r_f, r_w, r_z, r_dr, r_la, r_sh, c_kn, r_t0, r_t1, r_ta, r_wa⟩
theorem kSRn.re_t0 {v v' : kM} {g g' : Nat → Int32} {n H f w : Nat} (hS : kSRn v g n H f w) (ev : ∀ a, a ≤ 15 → a ≠ 0 → a ≠ 13 → a ≠ 11 → a ≠ 12 → v' a = v a) (e0 : ∀ s, 12 ≤ s → v' 0 s = v 0 s) (eg : ∀ j, ¬ (147 ≤ j ∧ j < 272) → g' j = g j) (c_t0 : kTR 0 (v' 11 2) (v' 12) g' 147) : kSRn v' g' n H f w := by
  obtain ⟨s_n, s_H, s_f, s_w, s_z, s_dr, s_la, s_sh, s_kn, s_t0, s_t1, s_ta, s_wa⟩ := hS
  have e1 : v' 1 = v 1 := ev 1 (by decide) (by decide) (by decide) (by decide) (by decide)
  have e2 : v' 2 = v 2 := ev 2 (by decide) (by decide) (by decide) (by decide) (by decide)
  have e3 : v' 3 = v 3 := ev 3 (by decide) (by decide) (by decide) (by decide) (by decide)
  have e4 : v' 4 = v 4 := ev 4 (by decide) (by decide) (by decide) (by decide) (by decide)
  have e5 : v' 5 = v 5 := ev 5 (by decide) (by decide) (by decide) (by decide) (by decide)
  have e6 : v' 6 = v 6 := ev 6 (by decide) (by decide) (by decide) (by decide) (by decide)
  have e7 : v' 7 = v 7 := ev 7 (by decide) (by decide) (by decide) (by decide) (by decide)
  have e8 : v' 8 = v 8 := ev 8 (by decide) (by decide) (by decide) (by decide) (by decide)
  have e9 : v' 9 = v 9 := ev 9 (by decide) (by decide) (by decide) (by decide) (by decide)
  have e10 : v' 10 = v 10 := ev 10 (by decide) (by decide) (by decide) (by decide) (by decide)
  have e14 : v' 14 = v 14 := ev 14 (by decide) (by decide) (by decide) (by decide) (by decide)
  have e15 : v' 15 = v 15 := ev 15 (by decide) (by decide) (by decide) (by decide) (by decide)
  have o12 : v' 0 12 = v 0 12 := e0 12 (by decide)
  have o13 : v' 0 13 = v 0 13 := e0 13 (by decide)
  have o14 : v' 0 14 = v 0 14 := e0 14 (by decide)
  have o15 : v' 0 15 = v 0 15 := e0 15 (by decide)
  have o16 : v' 0 16 = v 0 16 := e0 16 (by decide)
  have hn5 : n ≤ 5 := s_n.1
  have hf6 : f ≤ 60 := s_f.1
  have hw6 : w ≤ 24 := s_w.1
  have r_n : n ≤ 5 ∧ v' 0 12 = nI n ∧ g' 0 = nI n := by
    rw [o12, eg 0 (by omega)]
    exact s_n
  have r_H : H ≤ 100000 ∧ v' 0 13 = nI H ∧ g' 1 = nI H := by
    rw [o13, eg 1 (by omega)]
    exact s_H
  have r_f : f ≤ 60 ∧ v' 0 14 = nI f ∧ g' 4 = nI f := by
    rw [o14, eg 4 (by omega)]
    exact s_f
  have r_w : w ≤ 24 ∧ v' 0 15 = nI w ∧ g' 5 = nI w := by
    rw [o15, eg 5 (by omega)]
    exact s_w
  have r_z : v' 0 16 = g' 6 := by
    rw [o16, eg 6 (by omega)]
    exact s_z
  have r_dr : ∀ i, i < 2 → v' 2 i = g' (2 + i) := by
    intro i hi
    rw [e2, eg (2 + i) (by omega)]
    exact s_dr i hi
  have r_la : ∀ i, i < 64 → v' 1 i = g' (8 + i) := by
    intro i hi
    rw [e1, eg (8 + i) (by omega)]
    exact s_la i hi
  have r_sh : ∀ p, p < n → kShipR v' g' p := by
    intro p hp
    have hp5 : p < 5 := by omega
    unfold kShipR
    rw [e3, e4, eg (72 + 3 * p) (by omega), eg (73 + 3 * p) (by omega), eg (74 + 3 * p) (by omega)]
    exact s_sh p hp
  have r_kn : ∀ k, k < 3 * n → kKnotR v' g' k := by
    intro k hk
    have hk5 : k < 15 := by omega
    unfold kKnotR
    rw [e5, e6, e7, e8, eg (87 + 4 * k) (by omega), eg (88 + 4 * k) (by omega), eg (89 + 4 * k) (by omega), eg (90 + 4 * k) (by omega)]
    exact s_kn k hk
  have r_t1 : kTR 1 (v' 14 2) (v' 15) g' 272 := by
    rw [e14, e15]
    exact s_t1.congr (fun j h1 h2 => eg j (by omega))
  have r_ta : ∀ i, i < f → v' 9 i = g' (397 + i) ∧ 0 ≤ v' 9 i ∧ v' 9 i ≤ 255 := by
    intro i hi
    have hi6 : i < 60 := by omega
    rw [e9, eg (397 + i) (by omega)]
    exact s_ta i hi
  have r_wa : ∀ i, i < w → v' 10 i = g' (457 + i) := by
    intro i hi
    have hi6 : i < 24 := by omega
    rw [e10, eg (457 + i) (by omega)]
    exact s_wa i hi
  exact ⟨r_n, r_H, r_f, r_w, r_z, r_dr, r_la, r_sh, r_kn, c_t0, r_t1, r_ta, r_wa⟩
theorem kSRn.re_t1 {v v' : kM} {g g' : Nat → Int32} {n H f w : Nat} (hS : kSRn v g n H f w) (ev : ∀ a, a ≤ 15 → a ≠ 0 → a ≠ 13 → a ≠ 14 → a ≠ 15 → v' a = v a) (e0 : ∀ s, 12 ≤ s → v' 0 s = v 0 s) (eg : ∀ j, ¬ (272 ≤ j ∧ j < 397) → g' j = g j) (c_t1 : kTR 1 (v' 14 2) (v' 15) g' 272) : kSRn v' g' n H f w := by
  obtain ⟨s_n, s_H, s_f, s_w, s_z, s_dr, s_la, s_sh, s_kn, s_t0, s_t1, s_ta, s_wa⟩ := hS
  have e1 : v' 1 = v 1 := ev 1 (by decide) (by decide) (by decide) (by decide) (by decide)
  have e2 : v' 2 = v 2 := ev 2 (by decide) (by decide) (by decide) (by decide) (by decide)
  have e3 : v' 3 = v 3 := ev 3 (by decide) (by decide) (by decide) (by decide) (by decide)
  have e4 : v' 4 = v 4 := ev 4 (by decide) (by decide) (by decide) (by decide) (by decide)
  have e5 : v' 5 = v 5 := ev 5 (by decide) (by decide) (by decide) (by decide) (by decide)
  have e6 : v' 6 = v 6 := ev 6 (by decide) (by decide) (by decide) (by decide) (by decide)
  have e7 : v' 7 = v 7 := ev 7 (by decide) (by decide) (by decide) (by decide) (by decide)
  have e8 : v' 8 = v 8 := ev 8 (by decide) (by decide) (by decide) (by decide) (by decide)
  have e9 : v' 9 = v 9 := ev 9 (by decide) (by decide) (by decide) (by decide) (by decide)
  have e10 : v' 10 = v 10 := ev 10 (by decide) (by decide) (by decide) (by decide) (by decide)
  have e11 : v' 11 = v 11 := ev 11 (by decide) (by decide) (by decide) (by decide) (by decide)
  have e12 : v' 12 = v 12 := ev 12 (by decide) (by decide) (by decide) (by decide) (by decide)
  have o12 : v' 0 12 = v 0 12 := e0 12 (by decide)
  have o13 : v' 0 13 = v 0 13 := e0 13 (by decide)
  have o14 : v' 0 14 = v 0 14 := e0 14 (by decide)
  have o15 : v' 0 15 = v 0 15 := e0 15 (by decide)
  have o16 : v' 0 16 = v 0 16 := e0 16 (by decide)
  have hn5 : n ≤ 5 := s_n.1
  have hf6 : f ≤ 60 := s_f.1
  have hw6 : w ≤ 24 := s_w.1
  have r_n : n ≤ 5 ∧ v' 0 12 = nI n ∧ g' 0 = nI n := by
    rw [o12, eg 0 (by omega)]
    exact s_n
  have r_H : H ≤ 100000 ∧ v' 0 13 = nI H ∧ g' 1 = nI H := by
    rw [o13, eg 1 (by omega)]
    exact s_H
  have r_f : f ≤ 60 ∧ v' 0 14 = nI f ∧ g' 4 = nI f := by
    rw [o14, eg 4 (by omega)]
    exact s_f
  have r_w : w ≤ 24 ∧ v' 0 15 = nI w ∧ g' 5 = nI w := by
    rw [o15, eg 5 (by omega)]
    exact s_w
  have r_z : v' 0 16 = g' 6 := by
    rw [o16, eg 6 (by omega)]
    exact s_z
  have r_dr : ∀ i, i < 2 → v' 2 i = g' (2 + i) := by
    intro i hi
    rw [e2, eg (2 + i) (by omega)]
    exact s_dr i hi
  have r_la : ∀ i, i < 64 → v' 1 i = g' (8 + i) := by
    intro i hi
    rw [e1, eg (8 + i) (by omega)]
    exact s_la i hi
  have r_sh : ∀ p, p < n → kShipR v' g' p := by
    intro p hp
    have hp5 : p < 5 := by omega
    unfold kShipR
    rw [e3, e4, eg (72 + 3 * p) (by omega), eg (73 + 3 * p) (by omega), eg (74 + 3 * p) (by omega)]
    exact s_sh p hp
  have r_kn : ∀ k, k < 3 * n → kKnotR v' g' k := by
    intro k hk
    have hk5 : k < 15 := by omega
    unfold kKnotR
    rw [e5, e6, e7, e8, eg (87 + 4 * k) (by omega), eg (88 + 4 * k) (by omega), eg (89 + 4 * k) (by omega), eg (90 + 4 * k) (by omega)]
    exact s_kn k hk
  have r_t0 : kTR 0 (v' 11 2) (v' 12) g' 147 := by
    rw [e11, e12]
    exact s_t0.congr (fun j h1 h2 => eg j (by omega))
  have r_ta : ∀ i, i < f → v' 9 i = g' (397 + i) ∧ 0 ≤ v' 9 i ∧ v' 9 i ≤ 255 := by
    intro i hi
    have hi6 : i < 60 := by omega
    rw [e9, eg (397 + i) (by omega)]
    exact s_ta i hi
  have r_wa : ∀ i, i < w → v' 10 i = g' (457 + i) := by
    intro i hi
    have hi6 : i < 24 := by omega
    rw [e10, eg (457 + i) (by omega)]
    exact s_wa i hi
  exact ⟨r_n, r_H, r_f, r_w, r_z, r_dr, r_la, r_sh, r_kn, r_t0, c_t1, r_ta, r_wa⟩
theorem kSRn.re_ta {v v' : kM} {g g' : Nat → Int32} {n H f w f' : Nat} (hS : kSRn v g n H f w) (ev : ∀ a, a ≤ 15 → a ≠ 0 → a ≠ 13 → a ≠ 9 → v' a = v a) (e0 : ∀ s, 12 ≤ s → s ≠ 14 → v' 0 s = v 0 s) (eg : ∀ j, ¬ (4 ≤ j ∧ j < 5) → ¬ (397 ≤ j ∧ j < 457) → g' j = g j) (c_f : f' ≤ 60 ∧ v' 0 14 = nI f' ∧ g' 4 = nI f') (c_ta : ∀ i, i < f' → v' 9 i = g' (397 + i) ∧ 0 ≤ v' 9 i ∧ v' 9 i ≤ 255) : kSRn v' g' n H f' w := by
  obtain ⟨s_n, s_H, s_f, s_w, s_z, s_dr, s_la, s_sh, s_kn, s_t0, s_t1, s_ta, s_wa⟩ := hS
  have e1 : v' 1 = v 1 := ev 1 (by decide) (by decide) (by decide) (by decide)
  have e2 : v' 2 = v 2 := ev 2 (by decide) (by decide) (by decide) (by decide)
  have e3 : v' 3 = v 3 := ev 3 (by decide) (by decide) (by decide) (by decide)
  have e4 : v' 4 = v 4 := ev 4 (by decide) (by decide) (by decide) (by decide)
  have e5 : v' 5 = v 5 := ev 5 (by decide) (by decide) (by decide) (by decide)
  have e6 : v' 6 = v 6 := ev 6 (by decide) (by decide) (by decide) (by decide)
  have e7 : v' 7 = v 7 := ev 7 (by decide) (by decide) (by decide) (by decide)
  have e8 : v' 8 = v 8 := ev 8 (by decide) (by decide) (by decide) (by decide)
  have e10 : v' 10 = v 10 := ev 10 (by decide) (by decide) (by decide) (by decide)
  have e11 : v' 11 = v 11 := ev 11 (by decide) (by decide) (by decide) (by decide)
  have e12 : v' 12 = v 12 := ev 12 (by decide) (by decide) (by decide) (by decide)
  have e14 : v' 14 = v 14 := ev 14 (by decide) (by decide) (by decide) (by decide)
  have e15 : v' 15 = v 15 := ev 15 (by decide) (by decide) (by decide) (by decide)
  have o12 : v' 0 12 = v 0 12 := e0 12 (by decide) (by decide)
  have o13 : v' 0 13 = v 0 13 := e0 13 (by decide) (by decide)
  have o15 : v' 0 15 = v 0 15 := e0 15 (by decide) (by decide)
  have o16 : v' 0 16 = v 0 16 := e0 16 (by decide) (by decide)
  have hn5 : n ≤ 5 := s_n.1
  have hw6 : w ≤ 24 := s_w.1
  have r_n : n ≤ 5 ∧ v' 0 12 = nI n ∧ g' 0 = nI n := by
    rw [o12, eg 0 (by omega) (by omega)]
    exact s_n
  have r_H : H ≤ 100000 ∧ v' 0 13 = nI H ∧ g' 1 = nI H := by
    rw [o13, eg 1 (by omega) (by omega)]
    exact s_H
  have r_w : w ≤ 24 ∧ v' 0 15 = nI w ∧ g' 5 = nI w := by
    rw [o15, eg 5 (by omega) (by omega)]
    exact s_w
  have r_z : v' 0 16 = g' 6 := by
    rw [o16, eg 6 (by omega) (by omega)]
    exact s_z
  have r_dr : ∀ i, i < 2 → v' 2 i = g' (2 + i) := by
    intro i hi
    rw [e2, eg (2 + i) (by omega) (by omega)]
    exact s_dr i hi
  have r_la : ∀ i, i < 64 → v' 1 i = g' (8 + i) := by
    intro i hi
    rw [e1, eg (8 + i) (by omega) (by omega)]
    exact s_la i hi
  have r_sh : ∀ p, p < n → kShipR v' g' p := by
    intro p hp
    have hp5 : p < 5 := by omega
    unfold kShipR
    rw [e3, e4, eg (72 + 3 * p) (by omega) (by omega), eg (73 + 3 * p) (by omega) (by omega), eg (74 + 3 * p) (by omega) (by omega)]
    exact s_sh p hp
  have r_kn : ∀ k, k < 3 * n → kKnotR v' g' k := by
    intro k hk
    have hk5 : k < 15 := by omega
    unfold kKnotR
    rw [e5, e6, e7, e8, eg (87 + 4 * k) (by omega) (by omega), eg (88 + 4 * k) (by omega) (by omega), eg (89 + 4 * k) (by omega) (by omega), eg (90 + 4 * k) (by omega) (by omega)]
    exact s_kn k hk
  have r_t0 : kTR 0 (v' 11 2) (v' 12) g' 147 := by
    rw [e11, e12]
    exact s_t0.congr (fun j h1 h2 => eg j (by omega) (by omega))
  have r_t1 : kTR 1 (v' 14 2) (v' 15) g' 272 := by
    rw [e14, e15]
    exact s_t1.congr (fun j h1 h2 => eg j (by omega) (by omega))
  have r_wa : ∀ i, i < w → v' 10 i = g' (457 + i) := by
    intro i hi
    have hi6 : i < 24 := by omega
    rw [e10, eg (457 + i) (by omega) (by omega)]
    exact s_wa i hi
  exact ⟨r_n, r_H, c_f, r_w, r_z, r_dr, r_la, r_sh, r_kn, r_t0, r_t1, c_ta, r_wa⟩
theorem kSRn.re_wa {v v' : kM} {g g' : Nat → Int32} {n H f w w' : Nat} (hS : kSRn v g n H f w) (ev : ∀ a, a ≤ 15 → a ≠ 0 → a ≠ 13 → a ≠ 10 → v' a = v a) (e0 : ∀ s, 12 ≤ s → s ≠ 15 → v' 0 s = v 0 s) (eg : ∀ j, ¬ (5 ≤ j ∧ j < 6) → ¬ (457 ≤ j ∧ j < 481) → g' j = g j) (c_w : w' ≤ 24 ∧ v' 0 15 = nI w' ∧ g' 5 = nI w') (c_wa : ∀ i, i < w' → v' 10 i = g' (457 + i)) : kSRn v' g' n H f w' := by
  obtain ⟨s_n, s_H, s_f, s_w, s_z, s_dr, s_la, s_sh, s_kn, s_t0, s_t1, s_ta, s_wa⟩ := hS
  have e1 : v' 1 = v 1 := ev 1 (by decide) (by decide) (by decide) (by decide)
  have e2 : v' 2 = v 2 := ev 2 (by decide) (by decide) (by decide) (by decide)
  have e3 : v' 3 = v 3 := ev 3 (by decide) (by decide) (by decide) (by decide)
  have e4 : v' 4 = v 4 := ev 4 (by decide) (by decide) (by decide) (by decide)
  have e5 : v' 5 = v 5 := ev 5 (by decide) (by decide) (by decide) (by decide)
  have e6 : v' 6 = v 6 := ev 6 (by decide) (by decide) (by decide) (by decide)
  have e7 : v' 7 = v 7 := ev 7 (by decide) (by decide) (by decide) (by decide)
  have e8 : v' 8 = v 8 := ev 8 (by decide) (by decide) (by decide) (by decide)
  have e9 : v' 9 = v 9 := ev 9 (by decide) (by decide) (by decide) (by decide)
  have e11 : v' 11 = v 11 := ev 11 (by decide) (by decide) (by decide) (by decide)
  have e12 : v' 12 = v 12 := ev 12 (by decide) (by decide) (by decide) (by decide)
  have e14 : v' 14 = v 14 := ev 14 (by decide) (by decide) (by decide) (by decide)
  have e15 : v' 15 = v 15 := ev 15 (by decide) (by decide) (by decide) (by decide)
  have o12 : v' 0 12 = v 0 12 := e0 12 (by decide) (by decide)
  have o13 : v' 0 13 = v 0 13 := e0 13 (by decide) (by decide)
  have o14 : v' 0 14 = v 0 14 := e0 14 (by decide) (by decide)
  have o16 : v' 0 16 = v 0 16 := e0 16 (by decide) (by decide)
  have hn5 : n ≤ 5 := s_n.1
  have hf6 : f ≤ 60 := s_f.1
  have r_n : n ≤ 5 ∧ v' 0 12 = nI n ∧ g' 0 = nI n := by
    rw [o12, eg 0 (by omega) (by omega)]
    exact s_n
  have r_H : H ≤ 100000 ∧ v' 0 13 = nI H ∧ g' 1 = nI H := by
    rw [o13, eg 1 (by omega) (by omega)]
    exact s_H
  have r_f : f ≤ 60 ∧ v' 0 14 = nI f ∧ g' 4 = nI f := by
    rw [o14, eg 4 (by omega) (by omega)]
    exact s_f
  have r_z : v' 0 16 = g' 6 := by
    rw [o16, eg 6 (by omega) (by omega)]
    exact s_z
  have r_dr : ∀ i, i < 2 → v' 2 i = g' (2 + i) := by
    intro i hi
    rw [e2, eg (2 + i) (by omega) (by omega)]
    exact s_dr i hi
  have r_la : ∀ i, i < 64 → v' 1 i = g' (8 + i) := by
    intro i hi
    rw [e1, eg (8 + i) (by omega) (by omega)]
    exact s_la i hi
  have r_sh : ∀ p, p < n → kShipR v' g' p := by
    intro p hp
    have hp5 : p < 5 := by omega
    unfold kShipR
    rw [e3, e4, eg (72 + 3 * p) (by omega) (by omega), eg (73 + 3 * p) (by omega) (by omega), eg (74 + 3 * p) (by omega) (by omega)]
    exact s_sh p hp
  have r_kn : ∀ k, k < 3 * n → kKnotR v' g' k := by
    intro k hk
    have hk5 : k < 15 := by omega
    unfold kKnotR
    rw [e5, e6, e7, e8, eg (87 + 4 * k) (by omega) (by omega), eg (88 + 4 * k) (by omega) (by omega), eg (89 + 4 * k) (by omega) (by omega), eg (90 + 4 * k) (by omega) (by omega)]
    exact s_kn k hk
  have r_t0 : kTR 0 (v' 11 2) (v' 12) g' 147 := by
    rw [e11, e12]
    exact s_t0.congr (fun j h1 h2 => eg j (by omega) (by omega))
  have r_t1 : kTR 1 (v' 14 2) (v' 15) g' 272 := by
    rw [e14, e15]
    exact s_t1.congr (fun j h1 h2 => eg j (by omega) (by omega))
  have r_ta : ∀ i, i < f → v' 9 i = g' (397 + i) ∧ 0 ≤ v' 9 i ∧ v' 9 i ≤ 255 := by
    intro i hi
    have hi6 : i < 60 := by omega
    rw [e9, eg (397 + i) (by omega) (by omega)]
    exact s_ta i hi
  exact ⟨r_n, r_H, r_f, c_w, r_z, r_dr, r_la, r_sh, r_kn, r_t0, r_t1, r_ta, c_wa⟩
theorem kSRn.re_ship {v v' : kM} {g g' : Nat → Int32} {n H f w n' : Nat} (hS : kSRn v g n H f w) (ev : ∀ a, a ≤ 15 → a ≠ 0 → a ≠ 13 → a ≠ 3 → a ≠ 4 → a ≠ 5 → a ≠ 6 → a ≠ 7 → a ≠ 8 → v' a = v a) (e0 : ∀ s, 12 ≤ s → s ≠ 12 → v' 0 s = v 0 s) (eg : ∀ j, ¬ (0 ≤ j ∧ j < 1) → ¬ (72 ≤ j ∧ j < 87) → ¬ (87 ≤ j ∧ j < 147) → g' j = g j) (c_n : n' ≤ 5 ∧ v' 0 12 = nI n' ∧ g' 0 = nI n') (c_sh : ∀ p, p < n' → kShipR v' g' p) (c_kn : ∀ k, k < 3 * n' → kKnotR v' g' k) : kSRn v' g' n' H f w := by
  obtain ⟨s_n, s_H, s_f, s_w, s_z, s_dr, s_la, s_sh, s_kn, s_t0, s_t1, s_ta, s_wa⟩ := hS
  have e1 : v' 1 = v 1 := ev 1 (by decide) (by decide) (by decide) (by decide) (by decide) (by decide) (by decide) (by decide) (by decide)
  have e2 : v' 2 = v 2 := ev 2 (by decide) (by decide) (by decide) (by decide) (by decide) (by decide) (by decide) (by decide) (by decide)
  have e9 : v' 9 = v 9 := ev 9 (by decide) (by decide) (by decide) (by decide) (by decide) (by decide) (by decide) (by decide) (by decide)
  have e10 : v' 10 = v 10 := ev 10 (by decide) (by decide) (by decide) (by decide) (by decide) (by decide) (by decide) (by decide) (by decide)
  have e11 : v' 11 = v 11 := ev 11 (by decide) (by decide) (by decide) (by decide) (by decide) (by decide) (by decide) (by decide) (by decide)
  have e12 : v' 12 = v 12 := ev 12 (by decide) (by decide) (by decide) (by decide) (by decide) (by decide) (by decide) (by decide) (by decide)
  have e14 : v' 14 = v 14 := ev 14 (by decide) (by decide) (by decide) (by decide) (by decide) (by decide) (by decide) (by decide) (by decide)
  have e15 : v' 15 = v 15 := ev 15 (by decide) (by decide) (by decide) (by decide) (by decide) (by decide) (by decide) (by decide) (by decide)
  have o13 : v' 0 13 = v 0 13 := e0 13 (by decide) (by decide)
  have o14 : v' 0 14 = v 0 14 := e0 14 (by decide) (by decide)
  have o15 : v' 0 15 = v 0 15 := e0 15 (by decide) (by decide)
  have o16 : v' 0 16 = v 0 16 := e0 16 (by decide) (by decide)
  have hn5 : n' ≤ 5 := c_n.1
  have hf6 : f ≤ 60 := s_f.1
  have hw6 : w ≤ 24 := s_w.1
  have r_H : H ≤ 100000 ∧ v' 0 13 = nI H ∧ g' 1 = nI H := by
    rw [o13, eg 1 (by omega) (by omega) (by omega)]
    exact s_H
  have r_f : f ≤ 60 ∧ v' 0 14 = nI f ∧ g' 4 = nI f := by
    rw [o14, eg 4 (by omega) (by omega) (by omega)]
    exact s_f
  have r_w : w ≤ 24 ∧ v' 0 15 = nI w ∧ g' 5 = nI w := by
    rw [o15, eg 5 (by omega) (by omega) (by omega)]
    exact s_w
  have r_z : v' 0 16 = g' 6 := by
    rw [o16, eg 6 (by omega) (by omega) (by omega)]
    exact s_z
  have r_dr : ∀ i, i < 2 → v' 2 i = g' (2 + i) := by
    intro i hi
    rw [e2, eg (2 + i) (by omega) (by omega) (by omega)]
    exact s_dr i hi
  have r_la : ∀ i, i < 64 → v' 1 i = g' (8 + i) := by
    intro i hi
    rw [e1, eg (8 + i) (by omega) (by omega) (by omega)]
    exact s_la i hi
  have r_t0 : kTR 0 (v' 11 2) (v' 12) g' 147 := by
    rw [e11, e12]
    exact s_t0.congr (fun j h1 h2 => eg j (by omega) (by omega) (by omega))
  have r_t1 : kTR 1 (v' 14 2) (v' 15) g' 272 := by
    rw [e14, e15]
    exact s_t1.congr (fun j h1 h2 => eg j (by omega) (by omega) (by omega))
  have r_ta : ∀ i, i < f → v' 9 i = g' (397 + i) ∧ 0 ≤ v' 9 i ∧ v' 9 i ≤ 255 := by
    intro i hi
    have hi6 : i < 60 := by omega
    rw [e9, eg (397 + i) (by omega) (by omega) (by omega)]
    exact s_ta i hi
  have r_wa : ∀ i, i < w → v' 10 i = g' (457 + i) := by
    intro i hi
    have hi6 : i < 24 := by omega
    rw [e10, eg (457 + i) (by omega) (by omega) (by omega)]
    exact s_wa i hi
  exact ⟨c_n, r_H, r_f, r_w, r_z, r_dr, r_la, c_sh, c_kn, r_t0, r_t1, r_ta, r_wa⟩
theorem kSRn.re_hour {v v' : kM} {g g' : Nat → Int32} {n H f w H' : Nat} (hS : kSRn v g n H f w) (ev : ∀ a, a ≤ 15 → a ≠ 0 → a ≠ 13 → a ≠ 3 → a ≠ 4 → v' a = v a) (e0 : ∀ s, 12 ≤ s → s ≠ 13 → v' 0 s = v 0 s) (eg : ∀ j, ¬ (1 ≤ j ∧ j < 2) → ¬ (72 ≤ j ∧ j < 87) → g' j = g j) (c_H : H' ≤ 100000 ∧ v' 0 13 = nI H' ∧ g' 1 = nI H') (c_sh : ∀ p, p < n → kShipR v' g' p) : kSRn v' g' n H' f w := by
  obtain ⟨s_n, s_H, s_f, s_w, s_z, s_dr, s_la, s_sh, s_kn, s_t0, s_t1, s_ta, s_wa⟩ := hS
  have e1 : v' 1 = v 1 := ev 1 (by decide) (by decide) (by decide) (by decide) (by decide)
  have e2 : v' 2 = v 2 := ev 2 (by decide) (by decide) (by decide) (by decide) (by decide)
  have e5 : v' 5 = v 5 := ev 5 (by decide) (by decide) (by decide) (by decide) (by decide)
  have e6 : v' 6 = v 6 := ev 6 (by decide) (by decide) (by decide) (by decide) (by decide)
  have e7 : v' 7 = v 7 := ev 7 (by decide) (by decide) (by decide) (by decide) (by decide)
  have e8 : v' 8 = v 8 := ev 8 (by decide) (by decide) (by decide) (by decide) (by decide)
  have e9 : v' 9 = v 9 := ev 9 (by decide) (by decide) (by decide) (by decide) (by decide)
  have e10 : v' 10 = v 10 := ev 10 (by decide) (by decide) (by decide) (by decide) (by decide)
  have e11 : v' 11 = v 11 := ev 11 (by decide) (by decide) (by decide) (by decide) (by decide)
  have e12 : v' 12 = v 12 := ev 12 (by decide) (by decide) (by decide) (by decide) (by decide)
  have e14 : v' 14 = v 14 := ev 14 (by decide) (by decide) (by decide) (by decide) (by decide)
  have e15 : v' 15 = v 15 := ev 15 (by decide) (by decide) (by decide) (by decide) (by decide)
  have o12 : v' 0 12 = v 0 12 := e0 12 (by decide) (by decide)
  have o14 : v' 0 14 = v 0 14 := e0 14 (by decide) (by decide)
  have o15 : v' 0 15 = v 0 15 := e0 15 (by decide) (by decide)
  have o16 : v' 0 16 = v 0 16 := e0 16 (by decide) (by decide)
  have hn5 : n ≤ 5 := s_n.1
  have hf6 : f ≤ 60 := s_f.1
  have hw6 : w ≤ 24 := s_w.1
  have r_n : n ≤ 5 ∧ v' 0 12 = nI n ∧ g' 0 = nI n := by
    rw [o12, eg 0 (by omega) (by omega)]
    exact s_n
  have r_f : f ≤ 60 ∧ v' 0 14 = nI f ∧ g' 4 = nI f := by
    rw [o14, eg 4 (by omega) (by omega)]
    exact s_f
  have r_w : w ≤ 24 ∧ v' 0 15 = nI w ∧ g' 5 = nI w := by
    rw [o15, eg 5 (by omega) (by omega)]
    exact s_w
  have r_z : v' 0 16 = g' 6 := by
    rw [o16, eg 6 (by omega) (by omega)]
    exact s_z
  have r_dr : ∀ i, i < 2 → v' 2 i = g' (2 + i) := by
    intro i hi
    rw [e2, eg (2 + i) (by omega) (by omega)]
    exact s_dr i hi
  have r_la : ∀ i, i < 64 → v' 1 i = g' (8 + i) := by
    intro i hi
    rw [e1, eg (8 + i) (by omega) (by omega)]
    exact s_la i hi
  have r_kn : ∀ k, k < 3 * n → kKnotR v' g' k := by
    intro k hk
    have hk5 : k < 15 := by omega
    unfold kKnotR
    rw [e5, e6, e7, e8, eg (87 + 4 * k) (by omega) (by omega), eg (88 + 4 * k) (by omega) (by omega), eg (89 + 4 * k) (by omega) (by omega), eg (90 + 4 * k) (by omega) (by omega)]
    exact s_kn k hk
  have r_t0 : kTR 0 (v' 11 2) (v' 12) g' 147 := by
    rw [e11, e12]
    exact s_t0.congr (fun j h1 h2 => eg j (by omega) (by omega))
  have r_t1 : kTR 1 (v' 14 2) (v' 15) g' 272 := by
    rw [e14, e15]
    exact s_t1.congr (fun j h1 h2 => eg j (by omega) (by omega))
  have r_ta : ∀ i, i < f → v' 9 i = g' (397 + i) ∧ 0 ≤ v' 9 i ∧ v' 9 i ≤ 255 := by
    intro i hi
    have hi6 : i < 60 := by omega
    rw [e9, eg (397 + i) (by omega) (by omega)]
    exact s_ta i hi
  have r_wa : ∀ i, i < w → v' 10 i = g' (457 + i) := by
    intro i hi
    have hi6 : i < 24 := by omega
    rw [e10, eg (457 + i) (by omega) (by omega)]
    exact s_wa i hi
  exact ⟨r_n, c_H, r_f, r_w, r_z, r_dr, r_la, c_sh, r_kn, r_t0, r_t1, r_ta, r_wa⟩


