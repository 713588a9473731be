/-! ===== what stands somewhere, as lists and as rows ===== -/
section HAS
theorem kAt_has {kc kr : Nat → Int32} {x y : Int32} : ∀ m i j, i ≤ j → j < i + m → kc j = x → kr j = y → ∃ j', i ≤ j' ∧ j' < i + m ∧ kAt kc kr x y i m = nI j'
  | 0, i, j, h1, h2, _, _ => absurd h2 (by omega)
  | m + 1, i, j, h1, h2, h3, h4 => by
    unfold kAt
    by_cases e : kc i = x ∧ kr i = y
    · rw [if_pos e]; exact ⟨i, Nat.le_refl _, by omega, rfl⟩
    · rw [if_neg e]
      have hj : ¬ j = i := fun q => e (q ▸ ⟨h3, h4⟩)
      obtain ⟨j', a, b, c⟩ := kAt_has (kc := kc) (kr := kr) (x := x) (y := y) m (i + 1) j (by omega) (by omega) h3 h4
      exact ⟨j', by omega, by omega, c⟩
theorem has_K {K : List (Nat × Nat × Nat)} {x y : Nat} (hK : K.length ≤ 6) (hb : ∀ i (h : i < K.length), K[i].1 < 100 ∧ K[i].2.1 < 100) (hx : x < 100) (hy : y < 100) {f : Nat → Nat → Int32} (hf : ∀ i (h : i < K.length), f i 0 = nI K[i].1 ∧ f i 1 = nI K[i].2.1) : (kAt (fun k => f k 0) (fun k => f k 1) (nI x) (nI y) 0 K.length < 0) = ¬ hasK K x y = true := by
  by_cases h : hasK K x y = true
  · obtain ⟨q, q1, q2⟩ := List.any_eq_true.mp h
    obtain ⟨i, hi, e⟩ := List.getElem_of_mem q1
    subst e
    have q3 := of_decide_eq_true q2
    obtain ⟨j, -, j2, j3⟩ := kAt_has (kc := fun k => f k 0) (kr := fun k => f k 1) (x := nI x) (y := nI y) K.length 0 i (Nat.zero_le _) (by omega) ((hf i hi).1.trans (by rw [q3.1])) ((hf i hi).2.trans (by rw [q3.2]))
    rw [j3, nI_n0 j (by omega), eq_false (not_not_intro h)]
  · have hn := hasK_no h
    rw [kAt_no K.length 0 fun j _ hj e => hn j (by omega) ⟨nI_inj (by have := hb j (by omega); omega) (by omega) ((hf j (by omega)).1.symm.trans e.1), nI_inj (by have := hb j (by omega); omega) (by omega) ((hf j (by omega)).2.symm.trans e.2)⟩]
    rw [eq_true h]
    exact eq_true (by decide)
theorem has_U {K : List (Nat × Nat)} {x y : Nat} (hK : K.length ≤ 6) (hb : ∀ i (h : i < K.length), K[i].1 < 100 ∧ K[i].2 < 100) (hx : x < 100) (hy : y < 100) {f : Nat → Nat → Int32} (hf : ∀ i (h : i < K.length), f i 0 = nI K[i].1 ∧ f i 1 = nI K[i].2) : (kAt (fun k => f k 0) (fun k => f k 1) (nI x) (nI y) 0 K.length < 0) = ¬ hasU K x y = true := by
  by_cases h : hasU K x y = true
  · obtain ⟨q, q1, q2⟩ := List.any_eq_true.mp h
    obtain ⟨i, hi, e⟩ := List.getElem_of_mem q1
    subst e
    have q3 := of_decide_eq_true q2
    obtain ⟨j, -, j2, j3⟩ := kAt_has (kc := fun k => f k 0) (kr := fun k => f k 1) (x := nI x) (y := nI y) K.length 0 i (Nat.zero_le _) (by omega) ((hf i hi).1.trans (by rw [q3.1])) ((hf i hi).2.trans (by rw [q3.2]))
    rw [j3, nI_n0 j (by omega), eq_false (not_not_intro h)]
  · have hn := hasU_no h
    rw [kAt_no K.length 0 fun j _ hj e => hn j (by omega) ⟨nI_inj (by have := hb j (by omega); omega) (by omega) ((hf j (by omega)).1.symm.trans e.1), nI_inj (by have := hb j (by omega); omega) (by omega) ((hf j (by omega)).2.symm.trans e.2)⟩]
    rw [eq_true h]
    exact eq_true (by decide)
end HAS
