/-! ===== what cells draw ===== -/
section DRAW
variable {E : xE} {ad ro : Nat → Nat} {b b' a a' : Nat → Nat → Int32} {s s' t t' : Nat → Int32} {nk nc nn lo hi : Nat} {ru : Nat → Option Nat} {H : xH}
def drC (E : xE) : Nat := 3 + bel (cel E 0) 10
def drR (E : xE) : Nat := 3 + bel (cel E 1) 10
def drT (E : xE) : Nat := bel (cel E 2) 11
def drN (E : xE) : Nat := 1 + bel (cel E 14) 6
abbrev kcL := List (Nat × Nat × Nat) × List (Nat × Nat)
def hasK (K : List (Nat × Nat × Nat)) (x y : Nat) : Bool := K.any fun q => decide (q.1 = x ∧ q.2.1 = y)
def hasU (U : List (Nat × Nat)) (x y : Nat) : Bool := U.any fun q => decide (q.1 = x ∧ q.2 = y)
/-- one thing more -/
def dr1 (E : xE) (k : Nat) (p : kcL) : kcL :=
  if hasK p.1 (bel (cel E (3 + k) >>> (1 &&& 31)) (drC E)) (bel (cel E (3 + k) >>> (4 &&& 31)) (drR E)) = true ∨ hasU p.2 (bel (cel E (3 + k) >>> (1 &&& 31)) (drC E)) (bel (cel E (3 + k) >>> (4 &&& 31)) (drR E)) = true then p
  else if 0 < bel (cel E (3 + k)) 3 ∧ p.1.length < 6 then (p.1 ++ [(bel (cel E (3 + k) >>> (1 &&& 31)) (drC E), bel (cel E (3 + k) >>> (4 &&& 31)) (drR E), 1 + bel (cel E (3 + k) >>> (6 &&& 31)) 30)], p.2)
  else if p.2.length < 6 then (p.1, p.2 ++ [(bel (cel E (3 + k) >>> (1 &&& 31)) (drC E), bel (cel E (3 + k) >>> (4 &&& 31)) (drR E))]) else p
def drI (E : xE) : Nat → Nat → kcL → kcL
  | _, 0, p => p
  | k, m + 1, p => drI E (k + 1) m (dr1 E k p)
/-- what holds of them -/
def drO (E : xE) (p : kcL) : Prop := p.1.length ≤ 6 ∧ p.2.length ≤ 6 ∧ (∀ i (h : i < p.1.length), p.1[i].1 < drC E ∧ p.1[i].2.1 < drR E ∧ 1 ≤ p.1[i].2.2 ∧ p.1[i].2.2 ≤ 30) ∧ (∀ i (h : i < p.2.length), p.2[i].1 < drC E ∧ p.2[i].2 < drR E) ∧
  (∀ i j (hi : i < p.1.length) (hj : j < p.1.length), i < j → ¬ (p.1[i].1 = p.1[j].1 ∧ p.1[i].2.1 = p.1[j].2.1)) ∧ (∀ i j (hi : i < p.1.length) (hj : j < p.2.length), ¬ (p.1[i].1 = p.2[j].1 ∧ p.1[i].2.1 = p.2[j].2)) ∧ ∀ i j (hi : i < p.2.length) (hj : j < p.2.length), i < j → ¬ (p.2[i].1 = p.2[j].1 ∧ p.2[i].2 = p.2[j].2)
theorem drC_b : 3 ≤ drC E ∧ drC E ≤ 12 := by have := bel_lt (v := cel E 0) (n := 10) (by omega); unfold drC; omega
theorem drR_b : 3 ≤ drR E ∧ drR E ≤ 12 := by have := bel_lt (v := cel E 1) (n := 10) (by omega); unfold drR; omega
theorem hasK_no {K : List (Nat × Nat × Nat)} {x y : Nat} (h : ¬ hasK K x y = true) : ∀ i (hi : i < K.length), ¬ (K[i].1 = x ∧ K[i].2.1 = y) := by
  intro i hi e
  exact h (List.any_eq_true.mpr ⟨K[i], List.getElem_mem hi, decide_eq_true e⟩)
theorem hasU_no {U : List (Nat × Nat)} {x y : Nat} (h : ¬ hasU U x y = true) : ∀ i (hi : i < U.length), ¬ (U[i].1 = x ∧ U[i].2 = y) := by
  intro i hi e
  exact h (List.any_eq_true.mpr ⟨U[i], List.getElem_mem hi, decide_eq_true e⟩)
theorem dr1_ok {k : Nat} {p : kcL} (h : drO E p) : drO E (dr1 E k p) := by
  obtain ⟨h1, h2, h3, h4, h5, h6, h7⟩ := id h
  have cb := drC_b (E := E)
  have rb := drR_b (E := E)
  have bx := bel_lt (v := cel E (3 + k) >>> (1 &&& 31)) (n := drC E) (by omega)
  have by' := bel_lt (v := cel E (3 + k) >>> (4 &&& 31)) (n := drR E) (by omega)
  have bz := bel_lt (v := cel E (3 + k) >>> (6 &&& 31)) (n := 30) (by omega)
  unfold dr1
  generalize bel (cel E (3 + k) >>> (1 &&& 31)) (drC E) = x at *
  generalize bel (cel E (3 + k) >>> (4 &&& 31)) (drR E) = y at *
  generalize bel (cel E (3 + k) >>> (6 &&& 31)) 30 = z at *
  split
  · exact h
  next hn =>
  have n1 := hasK_no (fun e => hn (Or.inl e))
  have n2 := hasU_no (fun e => hn (Or.inr e))
  split
  next hk =>
    refine ⟨by simp; omega, h2, fun i hi => ?_, h4, fun i j hi hj hij => ?_, fun i j hi hj => ?_, h7⟩
    · simp only [List.length_append, List.length_cons, List.length_nil] at hi
      by_cases e : i < p.1.length
      · simp only [List.getElem_append_left e]; exact h3 i e
      · simp only [List.getElem_append_right (show p.1.length ≤ i by omega)]
        simp; omega
    · simp only [List.length_append, List.length_cons, List.length_nil] at hi hj
      have hi' : i < p.1.length := by omega
      simp only [List.getElem_append_left hi']
      by_cases e : j < p.1.length
      · simp only [List.getElem_append_left e]; exact h5 i j hi' e hij
      · simp only [List.getElem_append_right (show p.1.length ≤ j by omega)]
        simpa using n1 i hi'
    · simp only [List.length_append, List.length_cons, List.length_nil] at hi
      by_cases e : i < p.1.length
      · simp only [List.getElem_append_left e]; exact h6 i j e hj
      · simp only [List.getElem_append_right (show p.1.length ≤ i by omega)]
        have := n2 j hj
        simp; intro q1 q2; exact this ⟨q1.symm, q2.symm⟩
  next hk =>
  split
  next hu =>
    refine ⟨h1, by simp; omega, h3, fun i hi => ?_, h5, fun i j hi hj => ?_, fun i j hi hj hij => ?_⟩
    · simp only [List.length_append, List.length_cons, List.length_nil] at hi
      by_cases e : i < p.2.length
      · simp only [List.getElem_append_left e]; exact h4 i e
      · simp only [List.getElem_append_right (show p.2.length ≤ i by omega)]
        simp; omega
    · simp only [List.length_append, List.length_cons, List.length_nil] at hj
      by_cases e : j < p.2.length
      · simp only [List.getElem_append_left e]; exact h6 i j hi e
      · simp only [List.getElem_append_right (show p.2.length ≤ j by omega)]
        simpa using n1 i hi
    · simp only [List.length_append, List.length_cons, List.length_nil] at hi hj
      have hi' : i < p.2.length := by omega
      simp only [List.getElem_append_left hi']
      by_cases e : j < p.2.length
      · simp only [List.getElem_append_left e]; exact h7 i j hi' e hij
      · simp only [List.getElem_append_right (show p.2.length ≤ j by omega)]
        simpa using n2 i hi'
  next hu => exact h
theorem drI_ok : ∀ m k p, drO E p → drO E (drI E k m p)
  | 0, _, _, h => h
  | m + 1, k, p, h => drI_ok m (k + 1) _ (dr1_ok h)
def drP (E : xE) : kcL := drI E 0 (drT E) ([], [])
theorem drP_ok : drO E (drP E) := drI_ok _ _ _ ⟨by decide, by decide, fun _ h => absurd h (Nat.not_lt_zero _), fun _ h => absurd h (Nat.not_lt_zero _), fun _ _ h => absurd h (Nat.not_lt_zero _), fun _ _ h => absurd h (Nat.not_lt_zero _), fun _ _ h => absurd h (Nat.not_lt_zero _)⟩
/-- a clipper's home and noses -/
def drX (E : xE) (c : Nat) : Nat := bel (cel E (9 + c) >>> (2 &&& 31)) (drC E)
def drY (E : xE) (c : Nat) : Nat := bel (cel E (9 + c) >>> (5 &&& 31)) (drR E)
def drZ (E : xE) (c : Nat) : Nat := 1 + bel (cel E (9 + c) >>> (8 &&& 31)) 4
def drKx (E : xE) (i : Nat) : Nat := ((drP E).1.getD i (0, 0, 0)).1
def drKy (E : xE) (i : Nat) : Nat := ((drP E).1.getD i (0, 0, 0)).2.1
def drKz (E : xE) (i : Nat) : Nat := ((drP E).1.getD i (0, 0, 0)).2.2
def drUx (E : xE) (i : Nat) : Nat := ((drP E).2.getD i (0, 0)).1
def drUy (E : xE) (i : Nat) : Nat := ((drP E).2.getD i (0, 0)).2
theorem gD {α : Type} {L : List α} {i : Nat} {d : α} (h : i < L.length) : L.getD i d = L[i] := by
  rw [List.getD_eq_getElem?_getD, List.getElem?_eq_getElem h]; rfl
theorem dr_bay : bayO E (drC E) (drR E) (drKx E) (drKy E) (drKz E) (drUx E) (drUy E) (drX E) (drY E) (drZ E) (drP E).1.length (drP E).2.length (drN E) := by
  obtain ⟨h1, h2, h3, h4, h5, h6, h7⟩ := drP_ok (E := E)
  have cb := drC_b (E := E)
  have rb := drR_b (E := E)
  have hn := bel_lt (v := cel E 14) (n := 6) (by omega)
  refine ⟨cb, rb, h1, h2, by unfold drN; omega, fun i hi => ?_, fun i hi => ?_, fun c _ => ?_, fun i j hij hj => ?_, fun i j hi hj => ?_, fun i j hij hj => ?_⟩
  · unfold drKx drKy drKz
    rw [gD hi]; exact h3 i hi
  · unfold drUx drUy
    rw [gD hi]; exact h4 i hi
  · have z := bel_lt (v := cel E (9 + c) >>> (8 &&& 31)) (n := 4) (by omega)
    exact ⟨bel_lt (by omega), bel_lt (by omega), by unfold drZ; omega, by unfold drZ; omega⟩
  · unfold drKx drKy
    rw [gD (show i < (drP E).1.length by omega), gD hj]; exact h5 i j (by omega) hj hij
  · unfold drKx drKy drUx drUy
    rw [gD hi, gD hj]; exact h6 i j hi hj
  · unfold drUx drUy
    rw [gD (show i < (drP E).2.length by omega), gD hj]; exact h7 i j (by omega) hj hij
end DRAW
