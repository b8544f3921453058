/-! the start's world: its cells in their order, by program (g59b.py) -/
def bW1 (J : bJ) (u : bS7) : va_W := [((u.1 0), .inr (7, [.ref (u.2.1.1 0), .ref (u.2.2.1.1 0), .int 0, .ref (u.2.2.2.1.1 0), .ref (u.2.2.2.2.1 0), .ref (u.2.2.2.2.2.1 0), .ref (u.2.2.2.2.2.2.1 0), .ref (u.1 1), .ref (u.1 2)])), ((u.2.1.1 0), .inr (2, [.ref (u.2.1.1 1), .ref (u.2.1.1 2), .ref (u.2.1.1 3), .ref (u.2.1.1 4), .ref (u.2.1.1 5), .ref (u.2.1.1 6), .ref (u.2.1.1 7), .ref (u.2.1.1 8), .ref (u.2.1.1 9), .ref (u.2.1.1 10), .ref (u.2.1.2.1 0), .ref (u.2.1.2.2 0), .int 0, .int 0, .int 0, .int 0, .int 1])), ((u.2.1.1 1), bA J 64), ((u.2.1.1 2), bA J 2), ((u.2.1.1 3), bA J 5), ((u.2.1.1 4), bA J 5), ((u.2.1.1 5), bA J 15), ((u.2.1.1 6), bA J 15), ((u.2.1.1 7), bA J 15), ((u.2.1.1 8), bA J 15), ((u.2.1.1 9), bA J 60), ((u.2.1.1 10), bA J 24), ((u.2.1.2.1 0), .inr (6, [.ref (u.2.1.2.1 1), .ref (u.2.1.2.1 2), .int 0])), ((u.2.1.2.1 1), bA J 60), ((u.2.1.2.1 2), bA J 60), ((u.2.1.2.2 0), .inr (6, [.ref (u.2.1.2.2 1), .ref (u.2.1.2.2 2), .int 0])), ((u.2.1.2.2 1), bA J 60), ((u.2.1.2.2 2), bA J 60), ((u.2.2.1.1 0), .inr (2, [.ref (u.2.2.1.1 1), .ref (u.2.2.1.1 2), .ref (u.2.2.1.1 3), .ref (u.2.2.1.1 4), .ref (u.2.2.1.1 5), .ref (u.2.2.1.1 6), .ref (u.2.2.1.1 7), .ref (u.2.2.1.1 8), .ref (u.2.2.1.1 9), .ref (u.2.2.1.1 10), .ref (u.2.2.1.2.1 0), .ref (u.2.2.1.2.2 0), .int 0, .int 0, .int 0, .int 0, .int 1])), ((u.2.2.1.1 1), bA J 64), ((u.2.2.1.1 2), bA J 2), ((u.2.2.1.1 3), bA J 5), ((u.2.2.1.1 4), bA J 5), ((u.2.2.1.1 5), bA J 15), ((u.2.2.1.1 6), bA J 15), ((u.2.2.1.1 7), bA J 15), ((u.2.2.1.1 8), bA J 15), ((u.2.2.1.1 9), bA J 60), ((u.2.2.1.1 10), bA J 24), ((u.2.2.1.2.1 0), .inr (6, [.ref (u.2.2.1.2.1 1), .ref (u.2.2.1.2.1 2), .int 0])), ((u.2.2.1.2.1 1), bA J 60), ((u.2.2.1.2.1 2), bA J 60), ((u.2.2.1.2.2 0), .inr (6, [.ref (u.2.2.1.2.2 1), .ref (u.2.2.1.2.2 2), .int 0])), ((u.2.2.1.2.2 1), bA J 60), ((u.2.2.1.2.2 2), bA J 60), ((u.2.2.2.1.1 0), .inr (1, [.ref (u.2.2.2.1.2 0), .ref (u.2.2.2.1.1 1), .int 0, .int 0, .int 0, .ref J.2.2.2.2.2])), ((u.2.2.2.1.2 0), .inr (6, [.ref (u.2.2.2.1.2 1), .ref (u.2.2.2.1.2 2), .int 0])), ((u.2.2.2.1.2 1), bA J 60), ((u.2.2.2.1.2 2), bA J 60), ((u.2.2.2.1.1 1), bA J 60), ((u.2.2.2.2.1 0), .inr (0, [.ref (u.2.2.2.2.1 1), .ref (u.2.2.2.2.1 2), .ref (u.2.2.2.2.1 3), .ref (u.2.2.2.2.1 4), .ref (u.2.2.2.2.1 5), .int 0, .int 0, .int 0, .int 0, .int 0, .int 0])), ((u.2.2.2.2.1 1), bA J 24), ((u.2.2.2.2.1 2), bA J 24), ((u.2.2.2.2.1 3), bA J 24), ((u.2.2.2.2.1 4), .inl (J.2.2.2.2.1, 25, .inr (.inr (.inr (.inr (fun i => some ((u.2.2.2.2.1 4) + 1 + i))))))), (((u.2.2.2.2.1 4) + 1 + 0), bA J 5), (((u.2.2.2.2.1 4) + 1 + 1), bA J 5), (((u.2.2.2.2.1 4) + 1 + 2), bA J 5), (((u.2.2.2.2.1 4) + 1 + 3), bA J 5), (((u.2.2.2.2.1 4) + 1 + 4), bA J 5), (((u.2.2.2.2.1 4) + 1 + 5), bA J 5), (((u.2.2.2.2.1 4) + 1 + 6), bA J 5), (((u.2.2.2.2.1 4) + 1 + 7), bA J 5), (((u.2.2.2.2.1 4) + 1 + 8), bA J 5), (((u.2.2.2.2.1 4) + 1 + 9), bA J 5), (((u.2.2.2.2.1 4) + 1 + 10), bA J 5), (((u.2.2.2.2.1 4) + 1 + 11), bA J 5), (((u.2.2.2.2.1 4) + 1 + 12), bA J 5), (((u.2.2.2.2.1 4) + 1 + 13), bA J 5), (((u.2.2.2.2.1 4) + 1 + 14), bA J 5), (((u.2.2.2.2.1 4) + 1 + 15), bA J 5), (((u.2.2.2.2.1 4) + 1 + 16), bA J 5), (((u.2.2.2.2.1 4) + 1 + 17), bA J 5), (((u.2.2.2.2.1 4) + 1 + 18), bA J 5), (((u.2.2.2.2.1 4) + 1 + 19), bA J 5), (((u.2.2.2.2.1 4) + 1 + 20), bA J 5), (((u.2.2.2.2.1 4) + 1 + 21), bA J 5), (((u.2.2.2.2.1 4) + 1 + 22), bA J 5), (((u.2.2.2.2.1 4) + 1 + 23), bA J 5), (((u.2.2.2.2.1 4) + 1 + 24), bA J 5), ((u.2.2.2.2.1 5), bA J 5), ((u.2.2.2.2.2.1 0), .inr (3, [.ref (u.2.2.2.2.2.1 1), .ref (u.2.2.2.2.2.1 2), .ref (u.2.2.2.2.2.1 3), .ref (u.2.2.2.2.2.1 4), .int 0, .int 0, .int 0, .int 0, .int 0, .int 0])), ((u.2.2.2.2.2.1 1), bA J 10), ((u.2.2.2.2.2.1 2), bA J 10), ((u.2.2.2.2.2.1 3), bA J 30), ((u.2.2.2.2.2.1 4), bA J 3), ((u.2.2.2.2.2.2.1 0), .inr (5, [.ref (u.2.2.2.2.2.2.1 1), .int 0, .int 0, .int 0, .int 0, .int 0])), ((u.2.2.2.2.2.2.1 1), bA J 30), ((u.1 1), bSh J (va_up (va_up (va_up (va_up (fun _ => none) 0 (some (u.2.2.2.2.2.2.2.1 0))) 1 (some (u.2.2.2.2.2.2.2.2.1 0))) 2 (some (u.2.2.2.2.2.2.2.2.2.1 0))) 3 (some (u.2.2.2.2.2.2.2.2.2.2 0))))]
def bWe (J : bJ) (u : bS7) : va_W := [((u.1 2), bA J 7)]
def bW2 (J : bJ) (u : bS7) : va_W := [((u.2.2.2.2.2.2.2.1 0), .inr (4, [.ref (u.2.2.2.2.2.2.2.1 1), .int 0, .int 0])), ((u.2.2.2.2.2.2.2.1 1), bA J 24), ((u.2.2.2.2.2.2.2.2.1 0), .inr (4, [.ref (u.2.2.2.2.2.2.2.2.1 1), .int 0, .int 0])), ((u.2.2.2.2.2.2.2.2.1 1), bA J 24), ((u.2.2.2.2.2.2.2.2.2.1 0), .inr (4, [.ref (u.2.2.2.2.2.2.2.2.2.1 1), .int 0, .int 0])), ((u.2.2.2.2.2.2.2.2.2.1 1), bA J 24), ((u.2.2.2.2.2.2.2.2.2.2 0), .inr (4, [.ref (u.2.2.2.2.2.2.2.2.2.2 1), .int 0, .int 0])), ((u.2.2.2.2.2.2.2.2.2.2 1), bA J 24)]
def bW8 (J : bJ) (v : bS8) : va_W := [((v 0), .inr (8, [.ref (v 1), .ref (v 2), .ref (v 3), .ref (v 4), .int 0, .ref (v 5), .int 0, .int 0, .int 0, .int 0, .ref (v 6), .ref (v 7), .ref (v 8), .int 0, .int 0, .int 0, .ref (v 9), .int 0, .int 0, .int 0, .ref (v 10), .ref (v 11), .ref (v 12), .ref (v 13)])), ((v 1), .inl (J.2.2.1, 481, .inl (upd (fun _ => 0) 6 1))), ((v 2), bA J 481), ((v 3), bA J 481), ((v 4), bA J 294), ((v 5), bA J 7), ((v 6), bA J 124), ((v 7), bA J 128), ((v 8), bA J 64), ((v 9), bA J 30), ((v 10), bA J 4), ((v 11), bA J 4), ((v 12), bA J 96), ((v 13), bA J 24)]
def bW (J : bJ) (u : bS7) (v : bS8) : va_W := (bW1 J u ++ (bW2 J u ++ bWe J u)) ++ bW8 J v
def bAd (u : bS7) (v : bS8) : List Nat := [(u.1 0), (u.2.1.1 0), (u.2.1.1 1), (u.2.1.1 2), (u.2.1.1 3), (u.2.1.1 4), (u.2.1.1 5), (u.2.1.1 6), (u.2.1.1 7), (u.2.1.1 8), (u.2.1.1 9), (u.2.1.1 10), (u.2.1.2.1 0), (u.2.1.2.1 1), (u.2.1.2.1 2), (u.2.1.2.2 0), (u.2.1.2.2 1), (u.2.1.2.2 2), (u.2.2.1.1 0), (u.2.2.1.1 1), (u.2.2.1.1 2), (u.2.2.1.1 3), (u.2.2.1.1 4), (u.2.2.1.1 5), (u.2.2.1.1 6), (u.2.2.1.1 7), (u.2.2.1.1 8), (u.2.2.1.1 9), (u.2.2.1.1 10), (u.2.2.1.2.1 0), (u.2.2.1.2.1 1), (u.2.2.1.2.1 2), (u.2.2.1.2.2 0), (u.2.2.1.2.2 1), (u.2.2.1.2.2 2), (u.2.2.2.1.1 0), (u.2.2.2.1.2 0), (u.2.2.2.1.2 1), (u.2.2.2.1.2 2), (u.2.2.2.1.1 1), (u.2.2.2.2.1 0), (u.2.2.2.2.1 1), (u.2.2.2.2.1 2), (u.2.2.2.2.1 3), (u.2.2.2.2.1 4), ((u.2.2.2.2.1 4) + 1 + 0), ((u.2.2.2.2.1 4) + 1 + 1), ((u.2.2.2.2.1 4) + 1 + 2), ((u.2.2.2.2.1 4) + 1 + 3), ((u.2.2.2.2.1 4) + 1 + 4), ((u.2.2.2.2.1 4) + 1 + 5), ((u.2.2.2.2.1 4) + 1 + 6), ((u.2.2.2.2.1 4) + 1 + 7), ((u.2.2.2.2.1 4) + 1 + 8), ((u.2.2.2.2.1 4) + 1 + 9), ((u.2.2.2.2.1 4) + 1 + 10), ((u.2.2.2.2.1 4) + 1 + 11), ((u.2.2.2.2.1 4) + 1 + 12), ((u.2.2.2.2.1 4) + 1 + 13), ((u.2.2.2.2.1 4) + 1 + 14), ((u.2.2.2.2.1 4) + 1 + 15), ((u.2.2.2.2.1 4) + 1 + 16), ((u.2.2.2.2.1 4) + 1 + 17), ((u.2.2.2.2.1 4) + 1 + 18), ((u.2.2.2.2.1 4) + 1 + 19), ((u.2.2.2.2.1 4) + 1 + 20), ((u.2.2.2.2.1 4) + 1 + 21), ((u.2.2.2.2.1 4) + 1 + 22), ((u.2.2.2.2.1 4) + 1 + 23), ((u.2.2.2.2.1 4) + 1 + 24), (u.2.2.2.2.1 5), (u.2.2.2.2.2.1 0), (u.2.2.2.2.2.1 1), (u.2.2.2.2.2.1 2), (u.2.2.2.2.2.1 3), (u.2.2.2.2.2.1 4), (u.2.2.2.2.2.2.1 0), (u.2.2.2.2.2.2.1 1), (u.1 1), (u.2.2.2.2.2.2.2.1 0), (u.2.2.2.2.2.2.2.1 1), (u.2.2.2.2.2.2.2.2.1 0), (u.2.2.2.2.2.2.2.2.1 1), (u.2.2.2.2.2.2.2.2.2.1 0), (u.2.2.2.2.2.2.2.2.2.1 1), (u.2.2.2.2.2.2.2.2.2.2 0), (u.2.2.2.2.2.2.2.2.2.2 1), (u.1 2), (v 0), (v 1), (v 2), (v 3), (v 4), (v 5), (v 6), (v 7), (v 8), (v 9), (v 10), (v 11), (v 12), (v 13)]
set_option maxRecDepth 100000 in
theorem b_flat7 (J : bJ) (u : bS7) : bo7 J u = bW1 J u ++ (bWe J u ++ bW2 J u) := rfl
theorem b_flat8 (J : bJ) (v : bS8) : bo8 J v = bW8 J v := rfl
theorem b_flat (J : bJ) (u : bS7) (v : bS8) : bo7 J u ++ bo8 J v = (bW1 J u ++ (bWe J u ++ bW2 J u)) ++ bW8 J v := by rw [b_flat7, b_flat8]
set_option maxRecDepth 100000 in
theorem b_ad (J : bJ) (u : bS7) (v : bS8) : (bW J u v).map (fun q => q.1) = bAd u v := rfl
theorem b_adl (u : bS7) (v : bS8) : (bAd u v).length = 102 := rfl
/-- addresses: the cells, the texts and their bytes, the two static arrays, the script -/
def bKad (u : bS7) (v : bS8) (adK adV : Nat → Nat) (tA tB b : Nat) : Nat → Nat := fun k =>
  if k < 102 then (bAd u v).getD k 0 else if k < 1002 then adK (k - 1000) else if k = 1002 then tA else if k = 1003 then tB else if k = 1004 then b else adV (k - 1010)
def bG (J : bJ) (u : bS7) (v : bS8) (adK adV : Nat → Nat) (tA tB b : Nat) : kG := (J.1, J.2.1, bKad u v adK adV tA tB b, J.2.2.1, J.2.2.2.1, J.2.2.2.2.1)
def bAll (D : va_G) (H : Heap) : va_W → Prop
  | [] => True
  | q :: t => va_at D vwCl q H ∧ bAll D H t
theorem bAll_of {D : va_G} {H : Heap} : ∀ {ws : va_W}, va_P D vwCl ws H → bAll D H ws
  | [], _ => trivial
  | q :: t, h => ⟨h 0 q rfl, bAll_of (fun k q2 h2 => h (k + 1) q2 (by rw [List.getElem?_cons_succ]; exact h2))⟩
/-- an array of references, with another function that agrees below its length -/
theorem va_at_q {D : va_G} {cl : List vw_C} {H : Heap} {a n : Nat} {c : ClassId} {f g : Nat → Option Nat} (h1 : va_at D cl (a, .inl (c, n, .inr (.inr (.inr (.inr f))))) H) (e : ∀ j, j < n → f j = g j) : va_at D cl (a, .inl (c, n, .inr (.inr (.inr (.inr g))))) H := by
  have h2 : H[a]? = some (vp_cell _ _) := h1
  show H[a]? = some (vp_cell _ _)
  rw [h2, vp_cell_q, vp_cell_q]
  unfold arrV
  congr 3
  funext j
  show va_rf (f j.val) = va_rf (g j.val)
  rw [e j.val j.isLt]
section Start
variable {u : bS7} {v : bS8} {adK adV : Nat → Nat} {tA tB b : Nat}
set_option maxRecDepth 100000 in
theorem b_c44 : ∀ j, j < 25 → (some (u.2.2.2.2.1 4 + 1 + j) : Option Nat) = some (bKad u v adK adV tA tB b (44 + 1 + j))
  | 0, _ => rfl
  | 1, _ => rfl
  | 2, _ => rfl
  | 3, _ => rfl
  | 4, _ => rfl
  | 5, _ => rfl
  | 6, _ => rfl
  | 7, _ => rfl
  | 8, _ => rfl
  | 9, _ => rfl
  | 10, _ => rfl
  | 11, _ => rfl
  | 12, _ => rfl
  | 13, _ => rfl
  | 14, _ => rfl
  | 15, _ => rfl
  | 16, _ => rfl
  | 17, _ => rfl
  | 18, _ => rfl
  | 19, _ => rfl
  | 20, _ => rfl
  | 21, _ => rfl
  | 22, _ => rfl
  | 23, _ => rfl
  | 24, _ => rfl
  | j + 25, h => absurd h (by omega)
set_option maxRecDepth 100000 in
theorem b_c78 : ∀ j, j < 4 → ((va_up (va_up (va_up (va_up (fun _ => none) 0 (some (u.2.2.2.2.2.2.2.1 0))) 1 (some (u.2.2.2.2.2.2.2.2.1 0))) 2 (some (u.2.2.2.2.2.2.2.2.2.1 0))) 3 (some (u.2.2.2.2.2.2.2.2.2.2 0)))) j = some (bKad u v adK adV tA tB b (78 + 1 + 2 * j))
  | 0, _ => rfl
  | 1, _ => rfl
  | 2, _ => rfl
  | 3, _ => rfl
  | j + 4, h => absurd h (by omega)
theorem b_at (J : bJ) {k : Nat} (hk : k < 102) : ∃ e : va_E, (bW J u v)[k]? = some (bKad u v adK adV tA tB b k, e) := by
  have h1 : ((bW J u v).map (fun q => q.1))[k]? = some (bKad u v adK adV tA tB b k) := by
    rw [b_ad]
    unfold bKad
    rw [if_pos hk, List.getD_eq_getElem?_getD, List.getElem?_eq_getElem (by rw [b_adl]; exact hk)]
    rfl
  rw [List.getElem?_map] at h1
  cases hq : (bW J u v)[k]? with
  | none => rw [hq] at h1; cases h1
  | some q =>
    rw [hq] at h1
    have h2 : q.1 = bKad u v adK adV tA tB b k := Option.some.inj h1
    exact ⟨q.2, by rw [← h2]⟩
theorem b_inj {J : bJ} {A : Nat → Prop} (h1 : va_D A (bW J u v)) : kInj (bG J u v adK adV tA tB b) ∧ ∀ q, kA (bG J u v adK adV tA tB b) q → A q := by
  refine ⟨fun i j hi hj hij => ?_, ?_⟩
  · obtain ⟨e1, g1⟩ := b_at (u := u) (v := v) (adK := adK) (adV := adV) (tA := tA) (tB := tB) (b := b) J hi
    obtain ⟨e2, g2⟩ := b_at (u := u) (v := v) (adK := adK) (adV := adV) (tA := tA) (tB := tB) (b := b) J hj
    exact h1.1 i j _ _ g1 g2 hij
  · rintro q ⟨k, hk, rfl⟩
    obtain ⟨e1, g1⟩ := b_at (u := u) (v := v) (adK := adK) (adV := adV) (tA := tA) (tB := tB) (b := b) J hk
    exact h1.2 k _ g1
end Start
/-- two neighbours changed -/
theorem b_swap {A : Nat → Prop} {D : va_G} {cl : List vw_C} {H : Heap} {P X Y M : va_W} (hP : va_P D cl ((P ++ (X ++ Y)) ++ M) H) (hD : va_D A ((P ++ (X ++ Y)) ++ M)) : va_P D cl ((P ++ (Y ++ X)) ++ M) H ∧ va_D A ((P ++ (Y ++ X)) ++ M) := by
  have hp : ((P ++ (X ++ Y)) ++ M).Perm ((P ++ (Y ++ X)) ++ M) := (List.perm_append_comm.append_left P).append_right M
  generalize ((P ++ (X ++ Y)) ++ M) = w1 at hp hP hD
  generalize ((P ++ (Y ++ X)) ++ M) = w2 at hp ⊢
  have hn : (w1.map (fun q => q.1)).Nodup := by
    refine List.pairwise_iff_getElem.mpr (fun i j hi hj hij e => ?_)
    rw [List.length_map] at hi hj
    rw [List.getElem_map, List.getElem_map] at e
    have := hD.1 i j _ _ (List.getElem?_eq_getElem hi) (List.getElem?_eq_getElem hj) e
    omega
  have hn2 : (w2.map (fun q => q.1)).Nodup := (hp.map _).nodup_iff.mp hn
  refine ⟨fun k q hq => ?_, fun i j p q hi hj e => ?_, fun k q hq => ?_⟩
  · obtain ⟨i, hi⟩ := List.getElem?_of_mem (hp.mem_iff.mpr (List.mem_of_getElem? hq))
    exact hP i q hi
  · obtain ⟨li, ei⟩ := List.getElem?_eq_some_iff.mp hi
    obtain ⟨lj, ej⟩ := List.getElem?_eq_some_iff.mp hj
    have hpw := List.pairwise_iff_getElem.mp hn2
    rcases Nat.lt_trichotomy i j with h | h | h
    · exact absurd (by rw [List.getElem_map, List.getElem_map, ei, ej]; exact e) (hpw i j (by rw [List.length_map]; exact li) (by rw [List.length_map]; exact lj) h)
    · exact h
    · exact absurd (by rw [List.getElem_map, List.getElem_map, ei, ej]; exact e.symm) (hpw j i (by rw [List.length_map]; exact lj) (by rw [List.length_map]; exact li) h)
  · obtain ⟨i, hi⟩ := List.getElem?_of_mem (hp.mem_iff.mpr (List.mem_of_getElem? hq))
    exact hD.2 i q hi

set_option maxRecDepth 100000 in
set_option maxHeartbeats 4000000 in
theorem b_world {J : bJ} {u : bS7} {v : bS8} {adK adV : Nat → Nat} {tA tB b : Nat} {H : Heap} (hJ : J.2.2.2.2.2 = adK 0) (hP : va_P (bD J) vwCl (bW J u v) H) : va_P (bD J) vwCl (kW (bG J u v adK adV tA tB b) kZr) H := by
  intro k q hq
  obtain ⟨hk, rfl⟩ := kW_mem hq
  obtain ⟨h0, h1, h2, h3, h4, h5, h6, h7, h8, h9, h10, h11, h12, h13, h14, h15, h16, h17, h18, h19, h20, h21, h22, h23, h24, h25, h26, h27, h28, h29, h30, h31, h32, h33, h34, h35, h36, h37, h38, h39, h40, h41, h42, h43, h44, h45, h46, h47, h48, h49, h50, h51, h52, h53, h54, h55, h56, h57, h58, h59, h60, h61, h62, h63, h64, h65, h66, h67, h68, h69, h70, h71, h72, h73, h74, h75, h76, h77, h78, h79, h80, h81, h82, h83, h84, h85, h86, h87, h88, h89, h90, h91, h92, h93, h94, h95, h96, h97, h98, h99, h100, h101, -⟩ : bAll (bD J) H (bW J u v) := bAll_of hP
  have h35b : va_at (bD J) vwCl ((u.2.2.2.1.1 0), .inr (1, [.ref (u.2.2.2.1.2 0), .ref (u.2.2.2.1.1 1), .int 0, .int 0, .int 0, .ref J.2.2.2.2.2])) H := h35
  rw [hJ] at h35b
  have h44b := va_at_q (a := bKad u v adK adV tA tB b 44) (n := 25) (c := J.2.2.2.2.1) (f := fun i => some (u.2.2.2.2.1 4 + 1 + i)) (g := fun i => some (bKad u v adK adV tA tB b (44 + 1 + i))) h44 b_c44
  have h78b := va_at_q (a := bKad u v adK adV tA tB b 78) (n := 4) (c := J.2.2.2.1) (f := (va_up (va_up (va_up (va_up (fun _ => none) 0 (some (u.2.2.2.2.2.2.2.1 0))) 1 (some (u.2.2.2.2.2.2.2.2.1 0))) 2 (some (u.2.2.2.2.2.2.2.2.2.1 0))) 3 (some (u.2.2.2.2.2.2.2.2.2.2 0)))) (g := fun i => some (bKad u v adK adV tA tB b (78 + 1 + 2 * i))) h78 b_c78
  match k, hk with
  | 0, _ => exact h0
  | 1, _ => exact h1
  | 2, _ => exact h2
  | 3, _ => exact h3
  | 4, _ => exact h4
  | 5, _ => exact h5
  | 6, _ => exact h6
  | 7, _ => exact h7
  | 8, _ => exact h8
  | 9, _ => exact h9
  | 10, _ => exact h10
  | 11, _ => exact h11
  | 12, _ => exact h12
  | 13, _ => exact h13
  | 14, _ => exact h14
  | 15, _ => exact h15
  | 16, _ => exact h16
  | 17, _ => exact h17
  | 18, _ => exact h18
  | 19, _ => exact h19
  | 20, _ => exact h20
  | 21, _ => exact h21
  | 22, _ => exact h22
  | 23, _ => exact h23
  | 24, _ => exact h24
  | 25, _ => exact h25
  | 26, _ => exact h26
  | 27, _ => exact h27
  | 28, _ => exact h28
  | 29, _ => exact h29
  | 30, _ => exact h30
  | 31, _ => exact h31
  | 32, _ => exact h32
  | 33, _ => exact h33
  | 34, _ => exact h34
  | 35, _ => exact h35b
  | 36, _ => exact h36
  | 37, _ => exact h37
  | 38, _ => exact h38
  | 39, _ => exact h39
  | 40, _ => exact h40
  | 41, _ => exact h41
  | 42, _ => exact h42
  | 43, _ => exact h43
  | 44, _ => exact h44b
  | 45, _ => exact h45
  | 46, _ => exact h46
  | 47, _ => exact h47
  | 48, _ => exact h48
  | 49, _ => exact h49
  | 50, _ => exact h50
  | 51, _ => exact h51
  | 52, _ => exact h52
  | 53, _ => exact h53
  | 54, _ => exact h54
  | 55, _ => exact h55
  | 56, _ => exact h56
  | 57, _ => exact h57
  | 58, _ => exact h58
  | 59, _ => exact h59
  | 60, _ => exact h60
  | 61, _ => exact h61
  | 62, _ => exact h62
  | 63, _ => exact h63
  | 64, _ => exact h64
  | 65, _ => exact h65
  | 66, _ => exact h66
  | 67, _ => exact h67
  | 68, _ => exact h68
  | 69, _ => exact h69
  | 70, _ => exact h70
  | 71, _ => exact h71
  | 72, _ => exact h72
  | 73, _ => exact h73
  | 74, _ => exact h74
  | 75, _ => exact h75
  | 76, _ => exact h76
  | 77, _ => exact h77
  | 78, _ => exact h78b
  | 79, _ => exact h79
  | 80, _ => exact h80
  | 81, _ => exact h81
  | 82, _ => exact h82
  | 83, _ => exact h83
  | 84, _ => exact h84
  | 85, _ => exact h85
  | 86, _ => exact h86
  | 87, _ => exact h87
  | 88, _ => exact h88
  | 89, _ => exact h89
  | 90, _ => exact h90
  | 91, _ => exact h91
  | 92, _ => exact h92
  | 93, _ => exact h93
  | 94, _ => exact h94
  | 95, _ => exact h95
  | 96, _ => exact h96
  | 97, _ => exact h97
  | 98, _ => exact h98
  | 99, _ => exact h99
  | 100, _ => exact h100
  | 101, _ => exact h101
  | k + 102, h => exact absurd h (by omega)

