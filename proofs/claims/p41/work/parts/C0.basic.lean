/-! ===== the law's small methods ===== -/
section BASIC
variable {E : xE} {d : Nat} {Q : xR → Prop} {H : xH} {y : xM} {pc : Nat} {ls : List (Option Value)} {st : List Value}
theorem and_M (v : Int32) : v &&& 2147483647 = nI (v.toBitVec &&& 2147483647#32).toNat ∧ (v.toBitVec &&& 2147483647#32).toNat < 2147483648 := by
  have h1 : (v.toBitVec &&& 2147483647#32).toNat < 2147483648 := by
    rw [BitVec.toNat_and]
    exact Nat.lt_of_le_of_lt Nat.and_le_right (by decide)
  refine ⟨Int32.toInt_inj.mp ?_, h1⟩
  rw [nI_i h1]
  show (v.toBitVec &&& 2147483647#32).toInt = _
  exact BitVec.toInt_eq_toNat_of_lt (by omega)
theorem nI_dv {x y : Nat} (hx : x < 2147483648) (h0 : 0 < y) (hy : y < 2147483648) : nI x / nI y = nI (x / y) := by
  have hq : x / y < 2147483648 := Nat.lt_of_le_of_lt (Nat.div_le_self x y) hx
  refine Int32.toInt_inj.mp ?_
  rw [Int32.toInt_div, nI_toInt hx, nI_toInt hy, nI_toInt hq]
  rw [show ((x : Int).tdiv (y : Int)) = ((x / y : Nat) : Int) from rfl]
  generalize x / y = z at hq
  exact Int.bmod_eq_of_le (by omega) (by omega)
theorem nI_md {x y : Nat} (hx : x < 2147483648) (hy : 0 < y) (hy2 : y < 2147483648) : nI x - nI x / nI y * nI y = nI (x % y) := by
  rw [nI_dv hx hy hy2, nI_mu, pk_sub (Nat.div_mul_le_self x y)]
  congr 1
  have := Nat.div_add_mod x y
  rw [Nat.mul_comm] at this
  omega
theorem f_L_below (v : Int32) {n : Nat} (h : 0 < n) (hn : n < 2147483648) : xcall E xprog (d + 1) 167 [.int v, .int (nI n)] H Q = Q (.inl (some (.int (nI (bel v n)))), H) := by
  obtain ⟨a, b⟩ := and_M v
  rw [e_L_below]
  simp only [s_L_below_0, s_L_below_1, s_L_below_3, s_L_below_4, s_L_below_5, s_L_below_6, not_false_eq_true, Nat.reduceLT, Nat.reduceAdd, true_and, and_true, if_true, if_false, ite_true, ite_false, xnb_0, xnb_1, xnb_b, xk_v, xk_n, a, nI_md b h hn, show (nI n = 0) = False from eq_false (nI_ne0 h hn)]
  rfl
theorem xr_sl {l r1 r2 r3 x : Nat} (h : y.cd pc = some (.arraylength, l, r1, r2, r3, x)) : xr E d y Q (pc, ls, .retAddr 0 :: st, H) = xr E d y Q (pc + 1, ls, .int (nI E.1) :: st, H) := by
  refine xr_n1 ?_
  unfold xact
  rw [h]
  rfl
theorem xr_sa {l r1 r2 r3 x : Nat} {j : Int32} (h : y.cd pc = some (.iaload, l, r1, r2, r3, x)) : xr E d y Q (pc, ls, .int j :: .retAddr 0 :: st, H) = (vp_in j E.1 ∧ xr E d y Q (pc + 1, ls, .int (E.2 j.toNatClampNeg) :: st, H)) := by
  refine xr_n3 ?_ Iff.rfl
  unfold xact
  rw [h]
  rfl
theorem f_L_cell (hE : E.1 ≤ 260) {k : Nat} (hk : k < 2147483648) : xcall E xprog (d + 1) 168 [.retAddr 0, .int (nI k)] H Q = Q (.inl (some (.int (cel E k))), H) := by
  rw [e_L_cell]
  by_cases h : k < E.1
  · simp only [s_L_cell_0, s_L_cell_1, s_L_cell_3, s_L_cell_6, s_L_cell_7, s_L_cell_9, s_L_cell_12, s_L_cell_14, s_L_cell_15, s_L_cell_16, s_L_cell_17, s_L_cell_18, not_false_eq_true, Nat.reduceLT, Nat.reduceAdd, true_and, and_true, if_true, if_false, ite_true, ite_false, xnb_0, xnb_1, xnb_b, xk_v, xk_n, xr_sl (y := m_L_cell) (pc := 2) rfl, xr_sa (y := m_L_cell) (pc := 8) rfl, nlt h (by omega), nvp h (by omega), ncl hk, cel, if_pos h]
  · simp only [s_L_cell_0, s_L_cell_1, s_L_cell_3, s_L_cell_6, s_L_cell_7, s_L_cell_9, s_L_cell_12, s_L_cell_14, s_L_cell_15, s_L_cell_16, s_L_cell_17, s_L_cell_18, not_false_eq_true, Nat.reduceLT, Nat.reduceAdd, true_and, and_true, if_true, if_false, ite_true, ite_false, xnb_0, xnb_1, xnb_b, xk_v, xk_n, xr_sl (y := m_L_cell) (pc := 2) rfl, nge (show E.1 ≤ k by omega) (by omega), cel, if_neg h]
end BASIC
