/-! ===== the law's reckoning hangs on what is used alone ===== -/
section CONGR
variable {ad ro : Nat → Nat} {b b' a a' : Nat → Nat → Int32} {s s' t t' : Nat → Int32} {nk nc nn lo hi : Nat} {ru : Nat → Option Nat} {H : xH}
theorem jH_congr (h : jOK ad ro nk nc nn lo hi) (h0 : s' 0 = s 0) (h1 : s' 1 = s 1) (ht : t' 0 = t 0 ∧ t' 1 = t 1 ∧ t' 2 = t 2) (hk : ∀ k, k < nk → b' 2 k = b 2 k ∧ b' 3 k = b 3 k ∧ b' 4 k = b 4 k ∧ a' 0 k = a 0 k ∧ a' 2 k = a 2 k) (hu : ∀ k, k < nc → b' 5 k = b 5 k ∧ b' 6 k = b 6 k) (hc : ∀ c, c < nn → b' 7 c = b 7 c ∧ b' 8 c = b 8 c ∧ b' 9 c = b 9 c ∧ ∀ j, 3 ≤ j → j < 9 → a' j c = a j c) : jH ad ro b' s' nk nc nn ru H a' t' = jH ad ro b s nk nc nn ru H a t := by
  refine Prod.ext (funext fun n => ?_) rfl
  show (if ro n = 0 then H.1 n else jC ad b' s' nk nc nn ru a' t' (ro n)) = if ro n = 0 then H.1 n else jC ad b s nk nc nn ru a t (ro n)
  by_cases z : ro n = 0
  · rw [if_pos z, if_pos z]
  rw [if_neg z, if_neg z]
  have hj := (h.2.2.2.2 n z).2.1
  have hnk := h.1
  have hnn := h.2.2.1
  generalize ro n = r at z hj
  by_cases r1 : r = 1
  · subst r1
    show Sum.inr (10, [Value.int (s' 0), Value.int (s' 1), Value.int (t' 2), Value.int (t' 0), Value.int (t' 1), Value.ref (ad 2), Value.ref (ad 3), Value.ref (ad 4), Value.ref (ad 5)]) = Sum.inr (10, [Value.int (s 0), Value.int (s 1), Value.int (t 2), Value.int (t 0), Value.int (t 1), Value.ref (ad 2), Value.ref (ad 3), Value.ref (ad 4), Value.ref (ad 5)])
    rw [h0, h1, ht.1, ht.2.1, ht.2.2]
  by_cases r6 : r < 6
  · rcases (show r = 2 ∨ r = 3 ∨ r = 4 ∨ r = 5 by omega) with e | e | e | e <;> subst e <;> rfl
  rw [jC_hi (by omega), jC_hi (by omega)]
  by_cases q1 : r < 20
  · simp only [if_pos q1]
    obtain ⟨e1, e2, e3, e4, e5⟩ := hk (r - 10) (by unfold jU at hj; omega)
    congr 1
    unfold kf
    rw [e1, e2, e3, e4, e5]
  · simp only [if_neg q1]
    by_cases q2 : r < 30
    · simp only [if_pos q2]
      obtain ⟨e1, e2, e3, e4⟩ := hc (r - 20) (by unfold jU at hj; omega)
      congr 1
      funext j
      unfold cf
      rw [e1, e2, e3]
      by_cases g : j < 3
      · rcases (show j = 0 ∨ j = 1 ∨ j = 2 by omega) with e | e | e <;> subst e <;> rfl
      · by_cases g9 : j < 9
        · rw [e4 j (by omega) g9]
        · simp only [if_neg g9]
    · simp only [if_neg q2]
      obtain ⟨e1, e2⟩ := hu (r - 30) (by unfold jU at hj; omega)
      congr 1
      unfold uf
      rw [e1, e2]
/-- a heap that holds all at its place is the reckoning's -/
theorem jH_of (h : jOK ad ro nk nc nn lo hi) (hC : ∀ r, jU nk nc nn r → H.1 (ad r) = jC ad b s nk nc nn ru a t r) : jH ad ro b s nk nc nn ru H a t = H := by
  refine Prod.ext (funext fun n => ?_) rfl
  show (if ro n = 0 then H.1 n else jC ad b s nk nc nn ru a t (ro n)) = H.1 n
  by_cases z : ro n = 0
  · rw [if_pos z]
  · rw [if_neg z]
    obtain ⟨e1, e2, -⟩ := h.2.2.2.2 n z
    rw [← hC _ e2, e1]
end CONGR
