/-! text: class and model -/
section TextSt
variable {G : kG} {d : Nat} {h : kM}
theorem kTR_of {u : Int32} {L : Nat} {us : List (Int32 × Int32)} {len : Int32} {c g : Nat → Int32} {B : Nat} (hL : L ≤ 60) (hg : rGood L u 0 (L, some us)) (e1 : len = nI us.length) (e2 : g B = nI us.length) (ec : ∀ i t, us[i]? = some t → c i = kEncT u t) (eg : ∀ i t, us[i]? = some t → g (B + 1 + 2 * i) = t.1 ∧ g (B + 2 + 2 * i) = t.2) : kTR u len c g B := by
  obtain ⟨-, -, g3⟩ := hg
  obtain ⟨p1, p2, p3⟩ := g3 us rfl
  have p1' : us.length + 0 ≤ L := p1
  refine ⟨us.length, by omega, e1, e2, Or.inr ?_, fun i hi => ?_⟩
  · have r := kHt_of (u := u) (c := c) us 0 0 1 (fun i t ht => by rw [Nat.zero_add]; exact ec i t ht) rfl (p3 0)
    rw [Nat.zero_add] at r
    exact r
  · have ht : us[i]? = some us[i] := List.getElem?_eq_getElem hi
    obtain ⟨q1, q2⟩ := eg i _ ht
    rw [q1, q2]
    exact ⟨p2 _ (List.getElem_mem hi), ec i _ ht⟩
theorem st_text (hd : 130 ≤ d) (hR : kRel h) (a1 : Int32) : kStp G d m_X7_text m_X8_text [.int a1] h := by
  obtain ⟨n, H, F, w, hS, hH⟩ := hR.n
  have hF := hS.2.2.1
  have tape := hS.2.2.2.2.2.2.2.2.2.2.2.1
  have e14 : h 1 14 = nI F := hF.2.1
  have tp : ∀ i, i < F → h 10 i = h 89 (397 + i) ∧ 0 ≤ h 10 i ∧ h 10 i ≤ 255 := tape
  by_cases hc : 0 ≤ a1 ∧ a1 < 2
  · obtain ⟨c, hc2, rfl⟩ := iI (n := 2) (by decide) hc.1 hc.2
    refine cg_X7_text (by omega) ⟨fun _ => ?_, fun z => absurd hc (kb_0.mp z)⟩
    rw [e14]
    have hT : ∀ i, i < F → ∃ k, k < 256 ∧ h 10 i = nI k := fun i hi => by
      obtain ⟨-, q1, q2⟩ := tp i hi
      obtain ⟨j, hj, e⟩ := nI_of2 (M := 255) (n := 255) (by decide) (fun q => i32_tr q1 q) q2
      exact ⟨j, by omega, e⟩
    have hu : nI c = 0 ∨ nI c = 1 := by
      rcases (show c = 0 ∨ c = 1 by omega) with rfl | rfl
      · exact Or.inl rfl
      · exact Or.inr rfl
    have mid : ∀ g', (∀ q, q ≠ 1 → q ≠ 89 → g' q = h q) → g' 1 = upd (h 1) 14 0 → g' 89 = upd (h 89) 4 0 → kSRn (kVw g' 1) (g' 89) n H 0 w := fun g' o e1 e89 => by
      refine hS.re_ta (fun a y0 y1 y2 y3 => o (1 + a) (by omega) (by omega)) (fun s hs2 hs3 => ?_) (fun j j1 j2 => by rw [e89, pk_un (by omega)]) ⟨by decide, ?_, by rw [e89, pk_us]; rfl⟩ (fun i hi => absurd hi (by omega))
      · show g' 1 s = h 1 s
        rw [e1, pk_un hs3]
      · show g' 1 14 = _
        rw [e1, pk_us]
        rfl
    have hm1 := mid (kU (kU h 1 14 0) 89 4 0) (fun q q1 q2 => by rw [kU_ne q2, kU_ne q1]) (by rw [kU_ne (by decide), kU_eq]) (by rw [kU_eq, kU_ne (by decide)])
    refine sp_X1_faultOf (by omega) hF.1 hT hu (fun us h3 fr e l3 t3 h4 e4 => ⟨fun _ => ?_, fun q => absurd (by decide) q⟩) (fun b o h3 fr e w2 h4 e4 => ⟨fun q => ?_, fun _ => ?_⟩)
    · have hg := rP_good (T := h 10) (u := nI c) 36 35 (by decide) 0 (Nat.zero_le F)
      rw [e] at hg
      have f4 : ∀ q, q ≠ 1 → q ≠ 35 → q ≠ 36 → q ≠ 37 → q ≠ 39 → h4 q = h q := fun q q0 q1 q2 q3 q4 => by rw [e4, kU_ne q0]; exact fr q q1 q2 q3 q4
      have g1 : h4 1 = upd (h 1) 14 0 := by rw [e4, kU_eq, fr 1 (by decide) (by decide) (by decide) (by decide)]
      have l4 : h4 36 2 = nI us.length := by rw [e4, kU_ne (by decide)]; exact l3
      have t4 : ∀ i t, us[i]? = some t → h4 37 i = kEncT (nI c) t := fun i t ht => by rw [e4, kU_ne (by decide)]; exact t3 i t ht
      have nl : us.length ≤ 60 := by
        have g4 := (hg.2.2 us rfl).1
        have g4' : us.length + 0 ≤ F := g4
        have := hF.1
        omega
      have go : ∀ (t : Nat), t = 12 + 3 * c → ∀ h7, h7 = kTxtCp h4 t 36 → Cal G d m_X8_text [.ref 88, .int (nI c)] h7 (fun y h2 => 1 = y ∧ kRel h2) := by
        intro t et h7 e7
        have b7 : ∀ q, q ≠ t → q ≠ t + 1 → h7 q = h4 q := fun q q1 q2 => by rw [e7]; unfold kTxtCp; rw [kU_ne q1, kCp_ne q2]
        have bl : h7 t 2 = nI us.length := by rw [e7]; unfold kTxtCp; rw [kU_eq, pk_us]; exact l4
        have bc : ∀ i t', us[i]? = some t' → h7 (t + 1) i = kEncT (nI c) t' := fun i t' ht => by
          have hi := (List.getElem?_eq_some_iff.mp ht).1
          rw [e7]
          unfold kTxtCp
          rw [kU_ne (by omega), kCp_eq, cpyS i (by omega)]
          exact t4 i t' ht
        have f7 : ∀ q, q ≠ 1 → q ≠ 35 → q ≠ 36 → q ≠ 37 → q ≠ 39 → q ≠ t → q ≠ t + 1 → h7 q = h q := fun q q0 q1 q2 q3 q4 q5 q6 => by rw [b7 q q5 q6]; exact f4 q q0 q1 q2 q3 q4
        have h789 : h7 89 = h 89 := f7 89 (by decide) (by decide) (by decide) (by decide) (by decide) (by omega) (by omega)
        refine mText (by omega) hc2 hF.1 (T := h 10) (by rw [h789]; exact hF.2.2) (fun i hi => by rw [h789]; exact (tp i hi).1.symm) (fun b z h' e2 w3 _ _ _ => ?_) (fun us2 h2 e2 o2 j2 g2 l2 t2 => ?_)
        · exfalso
          have e3 : (F, some us) = (b, z) := e.symm.trans e2
          cases e3
          rcases w3 with w3 | w3
          · cases w3
          · exact absurd w3 (Nat.lt_irrefl _)
        · have e3 : (F, some us) = (F, some us2) := e.symm.trans e2
          cases e3
          have x2 : ∀ q, q ≠ 1 → q ≠ 35 → q ≠ 36 → q ≠ 37 → q ≠ 39 → q ≠ t → q ≠ t + 1 → q ≠ 88 → q ≠ 94 → q ≠ 89 → h2 q = h q := fun q q0 q1 q2 q3 q4 q5 q6 q7 q8 q9 => by rw [o2 q q7 q8 q9]; exact f7 q q0 q1 q2 q3 q4 q5 q6
          have x88 : ∀ j, j ≠ 6 → j ≠ 7 → j ≠ 8 → j ≠ 9 → h2 88 j = h 88 j := fun j j1 j3 j4 j5 => by rw [j2 j j1 j3 j4 j5, f7 88 (by decide) (by decide) (by decide) (by decide) (by decide) (by omega) (by omega)]
          have x1 : h2 1 = upd (h 1) 14 0 := by rw [o2 1 (by decide) (by decide) (by decide), b7 1 (by omega) (by omega), g1]
          have xt : h2 t = h7 t := o2 t (by omega) (by omega) (by omega)
          have xt1 : h2 (t + 1) = h7 (t + 1) := o2 (t + 1) (by omega) (by omega) (by omega)
          have v1 : (kU (kU h 1 14 0) 89 4 0) 1 = upd (h 1) 14 0 := by rw [kU_ne (by decide), kU_eq]
          have v89 : (kU (kU h 1 14 0) 89 4 0) 89 = upd (h 89) 4 0 := by rw [kU_eq, kU_ne (by decide)]
          have vo : ∀ q, q ≠ 1 → q ≠ 89 → (kU (kU h 1 14 0) 89 4 0) q = h q := fun q q1 q2 => by rw [kU_ne q2, kU_ne q1]
          refine ⟨rfl, hR.sea (fun a ha hs h76 h88 h89 => x2 a (by omega) (fun q => hs (by unfold kScr; omega)) (fun q => hs (by unfold kScr; omega)) (fun q => hs (by unfold kScr; omega)) (fun q => hs (by unfold kScr; omega)) (by omega) (by omega) h88 (fun q => hs (by unfold kScr; omega)) h89) ?_ ?_ (x88 4 (by decide) (by decide) (by decide) (by decide)) (x88 17 (by decide) (by decide) (by decide) (by decide)) ⟨n, H, 0, w, ?_, hH⟩⟩
          · rw [x2 0 (by decide) (by decide) (by decide) (by decide) (by decide) (by omega) (by omega) (by decide) (by decide) (by decide)]
          · rw [x2 76 (by decide) (by decide) (by decide) (by decide) (by decide) (by omega) (by omega) (by decide) (by decide) (by decide)]
          · rw [h789] at g2
            rcases (show c = 0 ∨ c = 1 by omega) with rfl | rfl
            · have et2 : t = 12 := et
              subst et2
              refine hm1.re_t0 (fun a y0 y1 y2 y3 y4 => ?_) (fun s _ => ?_) (fun j hj => ?_) ?_
              · show h2 (1 + a) = (kU (kU h 1 14 0) 89 4 0) (1 + a)
                rw [vo (1 + a) (by omega) (by omega)]
                exact x2 (1 + a) (by omega) (by omega) (by omega) (by omega) (by omega) (by omega) (by omega) (by omega) (by omega) (by omega)
              · show h2 1 s = (kU (kU h 1 14 0) 89 4 0) 1 s
                rw [x1, v1]
              · rw [v89]
                exact g2 j hj
              · show kTR 0 (h2 12 2) (h2 13) (h2 89) 147
                exact kTR_of (u := 0) hF.1 hg (by rw [xt]; exact bl) l2 (fun i t' ht => by
                  have q := bc i t' ht
                  rw [← xt1] at q
                  exact q) t2
            · have et2 : t = 15 := et
              subst et2
              refine hm1.re_t1 (fun a y0 y1 y2 y3 y4 => ?_) (fun s _ => ?_) (fun j hj => ?_) ?_
              · show h2 (1 + a) = (kU (kU h 1 14 0) 89 4 0) (1 + a)
                rw [vo (1 + a) (by omega) (by omega)]
                exact x2 (1 + a) (by omega) (by omega) (by omega) (by omega) (by omega) (by omega) (by omega) (by omega) (by omega) (by omega)
              · show h2 1 s = (kU (kU h 1 14 0) 89 4 0) 1 s
                rw [x1, v1]
              · rw [v89]
                exact g2 j hj
              · show kTR 1 (h2 15 2) (h2 16) (h2 89) 272
                exact kTR_of (u := 1) hF.1 hg (by rw [xt]; exact bl) l2 (fun i t' ht => by
                  have q := bc i t' ht
                  rw [← xt1] at q
                  exact q) t2
      refine ⟨fun z h7 e7 => go 12 ?_ h7 e7, fun z h8 e8 => go 15 ?_ h8 e8⟩
      · have q := (nI_eq (a := c) (b := 0) (by omega) (by decide)).mp z
        omega
      · have q : ¬ c = 0 := fun q => z (by rw [q]; rfl)
        omega
    · have hb : b ≤ 60 := by
        have hg := rP_good (T := h 10) (u := nI c) 36 35 (by decide) 0 (Nat.zero_le F)
        rw [e] at hg
        have hb2 : b ≤ F := hg.2.1
        have := hF.1
        omega
      exact absurd q (nI_pos (by omega))
    · have f4 : ∀ q, q ≠ 1 → q ≠ 35 → q ≠ 36 → q ≠ 37 → q ≠ 39 → h4 q = h q := fun q q0 q1 q2 q3 q4 => by rw [e4, kU_ne q0]; exact fr q q1 q2 q3 q4
      have g1 : h4 1 = upd (h 1) 14 0 := by rw [e4, kU_eq, fr 1 (by decide) (by decide) (by decide) (by decide)]
      have h489 : h4 89 = h 89 := f4 89 (by decide) (by decide) (by decide) (by decide) (by decide)
      refine mText (by omega) hc2 hF.1 (T := h 10) (by rw [h489]; exact hF.2.2) (fun i hi => by rw [h489]; exact (tp i hi).1.symm) (fun b2 z h2 e2 w3 o2 j2 g2 => ?_) (fun us2 h2 e2 o2 j2 g2 l2 t2 => ?_)
      · have e3 : (b, o) = (b2, z) := e.symm.trans e2
        cases e3
        have x2 : ∀ q, q ≠ 1 → q ≠ 35 → q ≠ 36 → q ≠ 37 → q ≠ 39 → q ≠ 88 → q ≠ 94 → q ≠ 89 → h2 q = h q := fun q q0 q1 q2 q3 q4 q7 q8 q9 => by rw [o2 q q7 q8 q9]; exact f4 q q0 q1 q2 q3 q4
        have x88 : ∀ j, j ≠ 6 → j ≠ 7 → j ≠ 8 → j ≠ 9 → h2 88 j = h 88 j := fun j j1 j3 j4 j5 => by rw [j2 j j1 j3 j4 j5, f4 88 (by decide) (by decide) (by decide) (by decide) (by decide)]
        have x1 : h2 1 = upd (h 1) 14 0 := by rw [o2 1 (by decide) (by decide) (by decide), g1]
        have v1 : (kU (kU h 1 14 0) 89 4 0) 1 = upd (h 1) 14 0 := by rw [kU_ne (by decide), kU_eq]
        have v89 : (kU (kU h 1 14 0) 89 4 0) 89 = upd (h 89) 4 0 := by rw [kU_eq, kU_ne (by decide)]
        refine ⟨rfl, hR.sea (fun a ha hs h76 h88 h89 => x2 a (by omega) (fun q => hs (by unfold kScr; omega)) (fun q => hs (by unfold kScr; omega)) (fun q => hs (by unfold kScr; omega)) (fun q => hs (by unfold kScr; omega)) h88 (fun q => hs (by unfold kScr; omega)) h89) ?_ ?_ (x88 4 (by decide) (by decide) (by decide) (by decide)) (x88 17 (by decide) (by decide) (by decide) (by decide)) ⟨n, H, 0, w, ?_, hH⟩⟩
        · rw [x2 0 (by decide) (by decide) (by decide) (by decide) (by decide) (by decide) (by decide) (by decide)]
        · rw [x2 76 (by decide) (by decide) (by decide) (by decide) (by decide) (by decide) (by decide) (by decide)]
        · rw [h489] at g2
          refine hS.re_ta (fun a y0 y1 y2 y3 => ?_) (fun s hs2 hs3 => ?_) (fun j j1 j3 => by rw [g2, pk_un (by omega)]) ⟨by decide, ?_, by rw [g2, pk_us]; rfl⟩ (fun i hi => absurd hi (by omega))
          · exact x2 (1 + a) (by omega) (by omega) (by omega) (by omega) (by omega) (by omega) (by omega) (by omega)
          · show h2 1 s = h 1 s
            rw [x1, pk_un hs3]
          · show h2 1 14 = _
            rw [x1, pk_us]
            rfl
      · exfalso
        have e3 : (b, o) = (F, some us2) := e.symm.trans e2
        cases e3
        rcases w2 with w2 | w2
        · cases w2
        · exact absurd w2 (Nat.lt_irrefl _)
  · refine cg_X7_text (by omega) ⟨fun z => absurd (kb_n0.mp z) hc, fun _ => ⟨kin7 (n := 1) (by decide), fun h1 e1 => ?_⟩⟩
    exact cg_X8_text (by omega) ⟨fun z => absurd (i1.mp (kb_n0.mp z)) hc, fun _ => ⟨kin7 (n := 1) (by decide), kErrs hR h1 e1⟩⟩
end TextSt

