/-! the start: the two memories agree -/
def kZr : kM := kU (kU (kU (fun _ _ => 0) 1 16 1) 18 16 1) 89 6 1
theorem kZr_0 {a : Nat} (h1 : a ≠ 1) (h2 : a ≠ 18) (h3 : a ≠ 89) (j : Nat) : kZr a j = 0 := by
  unfold kZr
  rw [kU_ne h3, kU_ne h2, kU_ne h1]
theorem kZr_1 {j : Nat} (h : j ≠ 16) : kZr 1 j = 0 := by
  unfold kZr
  rw [kU_ne (by decide), kU_ne (by decide), kU_eq, pk_un h]
theorem kZr_116 : kZr 1 16 = 1 := by
  unfold kZr
  rw [kU_ne (by decide), kU_ne (by decide), kU_eq, pk_us]
theorem kZr_89 {j : Nat} (h : j ≠ 6) : kZr 89 j = 0 := by
  unfold kZr
  rw [kU_eq, pk_un h, kU_ne (by decide), kU_ne (by decide)]
theorem kZr_896 : kZr 89 6 = 1 := by
  unfold kZr
  rw [kU_eq, pk_us]
theorem kZr_rel : kRel kZr := by
  have z : ∀ a, a ≠ 1 → a ≠ 18 → a ≠ 89 → ∀ j, kZr a j = 0 := fun a h1 h2 h3 j => kZr_0 h1 h2 h3 j
  have n0 : nI 0 = (0 : Int32) := nI_0
  refine ⟨⟨0, 0, 0, 0, ⟨⟨by decide, ?_, ?_⟩, ⟨by decide, ?_, ?_⟩, ⟨by decide, ?_, ?_⟩, ⟨by decide, ?_, ?_⟩, ?_, fun i hi => ?_, fun i hi => ?_, fun p hp => absurd hp (by omega), fun k hk => absurd hk (by omega), ?_, ?_, fun i hi => absurd hi (by omega), fun i hi => absurd hi (by omega)⟩, by decide⟩, fun q => absurd (z 0 (by decide) (by decide) (by decide) 2) q, ?_, fun i hi => ?_, ⟨0, by decide, ?_, ?_, fun i hi => absurd hi (by omega)⟩, fun s hs => ?_⟩
  · show kZr 1 12 = _
    rw [n0, kZr_1 (by decide)]
  · rw [n0, kZr_89 (by decide)]
  · show kZr 1 13 = _
    rw [n0, kZr_1 (by decide)]
  · rw [n0, kZr_89 (by decide)]
  · show kZr 1 14 = _
    rw [n0, kZr_1 (by decide)]
  · rw [n0, kZr_89 (by decide)]
  · show kZr 1 15 = _
    rw [n0, kZr_1 (by decide)]
  · rw [n0, kZr_89 (by decide)]
  · show kZr 1 16 = _
    rw [kZr_116, kZr_896]
  · show kZr 3 i = _
    rw [z 3 (by decide) (by decide) (by decide), kZr_89 (by omega)]
  · show kZr 2 i = _
    rw [z 2 (by decide) (by decide) (by decide), kZr_89 (by omega)]
  · show kTR 0 (kZr 12 2) (kZr 13) (kZr 89) 147
    rw [z 12 (by decide) (by decide) (by decide)]
    exact kTR.none (kZr_89 (by decide))
  · show kTR 1 (kZr 15 2) (kZr 16) (kZr 89) 272
    rw [z 15 (by decide) (by decide) (by decide)]
    exact kTR.none (kZr_89 (by decide))
  · rw [z 0 (by decide) (by decide) (by decide), z 88 (by decide) (by decide) (by decide)]
  · rw [z 87 (by decide) (by decide) (by decide), z 93 (by decide) (by decide) (by decide)]
  · rw [n0, z 76 (by decide) (by decide) (by decide)]
  · rw [n0, z 88 (by decide) (by decide) (by decide)]
  · refine ⟨⟨0, by decide, ?_, ?_⟩, ?_, Or.inl (z 98 (by decide) (by decide) (by decide) s), fun i hi => ⟨0, ?_, ?_⟩⟩
    · rw [n0, z (79 + 2 * s) (by omega) (by omega) (by omega)]
    · rw [n0, z 99 (by decide) (by decide) (by decide)]
    · rw [z (79 + 2 * s) (by omega) (by omega) (by omega), z 98 (by decide) (by decide) (by decide)]
    · rw [z (80 + 2 * s) (by omega) (by omega) (by omega), z 98 (by decide) (by decide) (by decide)]
      decide
    · rw [z 100 (by decide) (by decide) (by decide), z 98 (by decide) (by decide) (by decide)]
      decide

