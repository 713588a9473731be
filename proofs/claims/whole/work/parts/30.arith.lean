/-! ===== sums of the two sides ===== -/
section ARITH
theorem nI_dv {x y : Nat} (hx : x < 2147483648) (h0 : 0 < y) (hy : y < 2147483648) : nI x / nI y = nI (x / y) := by
  have hq : x / y < 2147483648 := Nat.lt_of_le_of_lt (Nat.div_le_self x y) hx
  refine Int32.toInt_inj.mp ?_
  rw [Int32.toInt_div, nI_toInt hx, nI_toInt hy, nI_toInt hq]
  rw [show ((x : Int).tdiv (y : Int)) = ((x / y : Nat) : Int) from rfl]
  generalize x / y = z at hq
  exact Int.bmod_eq_of_le (by omega) (by omega)
theorem nI_cell {co x y : Nat} (hx : x < co) (hc : co ≤ 12) (hy : y < 12) : nI (co * y + x) / nI co = nI y ∧ nI (co * y + x) - nI (co * y + x) / nI co * nI co = nI x := by
  have hm : co * y ≤ 12 * 12 := Nat.mul_le_mul hc (by omega)
  have e : (co * y + x) / co = y := by
    rw [Nat.add_comm, Nat.add_mul_div_left _ _ (by omega), Nat.div_eq_of_lt hx]
    omega
  have e1 : nI (co * y + x) / nI co = nI y := by rw [nI_dv (by omega) (by omega) (by omega), e]
  refine ⟨e1, ?_⟩
  rw [e1, nI_mu, Nat.mul_comm y co, Nat.add_comm, ← nI_add]
  exact Int32.add_sub_cancel _ _
theorem xabs_n (z : Int32) : xabs (0 - z) = xabs z := by
  have l0 := z.le_toInt
  have l1 := z.toInt_lt
  by_cases p : z.toInt = -2147483648
  · have e : z = Int32.minValue := Int32.toInt_inj.mp p
    subst e
    decide
  · have e : (0 - z).toInt = 0 - z.toInt := by
      rw [Int32.toInt_sub, show (0 : Int32).toInt = 0 from rfl]
      exact Int.bmod_eq_of_le (by omega) (by omega)
    unfold xabs
    have q0 : (0 ≤ z) ↔ 0 ≤ z.toInt := Int32.le_iff_toInt_le
    have q1 : (0 ≤ 0 - z) ↔ 0 ≤ 0 - z.toInt := by rw [← e]; exact Int32.le_iff_toInt_le
    by_cases r : 0 ≤ z.toInt
    · rw [if_pos (q0.mpr r)]
      by_cases r0 : z.toInt = 0
      · have e0 : z = 0 := Int32.toInt_inj.mp r0
        subst e0
        decide
      · rw [if_neg (fun h => by have := q1.mp h; omega)]
        grind
    · rw [if_neg (fun h => r (q0.mp h)), if_pos (q1.mpr (by omega))]
theorem ar_1 (x k f e : Int32) : x - (k + f * e) = 0 - (k - (x - e * f)) := by grind
theorem ar_x (x k f e : Int32) : xabs (x - (k + f * e)) = xabs (k - (x - e * f)) := by rw [ar_1, xabs_n]
end ARITH
