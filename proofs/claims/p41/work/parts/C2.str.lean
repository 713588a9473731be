/-! ===== texts as arguments: constants, or made ones ===== -/
section STR
variable {E : xE} {d : Nat} {Q : xR → Prop} {H : xH} {p v n m q a b : Nat} {f g : Nat → Int32} {L : List Nat} {sv : Value}
abbrev stF (b : Nat) : xC := .inr (12, [.ref b, .int 0, .int 0, .int 0])
/-- f's first bytes are L -/
def byL (f : Nat → Int32) (L : List Nat) : Prop := ∀ j, j < L.length → f j = nI (L.getD j 0)
/-- sv is a text of the letters L -/
def stV (H : xH) (sv : Value) (L : List Nat) : Prop := (∃ i, i < 43 ∧ sv = .retAddr (100 + 2 * i) ∧ tln i = L.length ∧ byL (fun j => tch i j) L) ∨
  ∃ a b f, sv = .ref a ∧ H.1 a = stF b ∧ H.1 b = xarB L.length f ∧ byL f L ∧ xbok L.length f ∧ a < H.2.1 ∧ b < H.2.1
theorem f_JS_coderR (ha : H.1 a = stF b) : xcall E xprog (d + 1) 142 [.ref a] H Q = Q (.inl (some (.int 0)), H) := by
  rw [e_JS_coderR]
  simp only [s_JS_coderR_0, s_JS_coderR_3, s_JS_coderR_6, s_JS_coderR_7, s_JS_coderR_10, s_JS_coderR_13, s_JS_coderR_14, xf_of ha, xll_12, xlg_12_0, xlg_12_1, xlg_12_2, xlg_12_3, not_false_eq_true, Nat.reduceLT, Nat.reduceAdd, true_and, and_true, if_true, if_false, ite_true, ite_false, xnb_0, xnb_1, xnb_b, xk_v, xk_n, k1_0]
  simp [narrow]
theorem f_JS_isLatin1R (ha : H.1 a = stF b) : xcall E xprog (d + 1) 143 [.ref a] H Q = Q (.inl (some (.int 1)), H) := by
  rw [e_JS_isLatin1R]
  simp only [s_JS_isLatin1R_0, s_JS_isLatin1R_3, s_JS_isLatin1R_6, s_JS_isLatin1R_7, s_JS_isLatin1R_10, s_JS_isLatin1R_13, s_JS_isLatin1R_14, s_JS_isLatin1R_17, s_JS_isLatin1R_18, xf_of ha, xll_12, xlg_12_0, xlg_12_1, xlg_12_2, xlg_12_3, not_false_eq_true, Nat.reduceLT, Nat.reduceAdd, true_and, and_true, if_true, if_false, ite_true, ite_false, xnb_0, xnb_1, xnb_b, xk_v, xk_n, k1_0]
theorem f_JS_lengthR (ha : H.1 a = stF b) (hb : H.1 b = xarB n f) : xcall E xprog (d + 2) 136 [.ref a] H Q = Q (.inl (some (.int (nI n))), H) := by
  rw [e_JS_lengthR]
  simp only [s_JS_lengthR_0, s_JS_lengthR_1, s_JS_lengthR_4, s_JS_lengthR_5, s_JS_lengthR_6, s_JS_lengthR_9, s_JS_lengthR_10, xf_of ha, xc_of ha, xll_12, xlg_12_0, xlg_12_1, xlg_12_2, xlg_12_3, not_false_eq_true, Nat.reduceLT, Nat.reduceAdd, true_and, and_true, if_true, if_false, ite_true, ite_false, xnb_0, xnb_1, xnb_b, xk_v, xk_n, xln_B hb, Option.isSome_some, Option.getD_some, f_JS_coderR ha, sb_shr0]
theorem f_JS_getBytesR (ha : H.1 a = stF b) (hb : H.1 b = xarB n f) (hk : xbok n f) (hv : H.1 v = xarB m g) (h : q + n ≤ m) (hm : m ≤ 1000000) : xcall E xprog (d + 2) 140 [.ref a, .ref v, .int (nI q), .int 0] H Q = Q (.inl none, xset H v (xarB m (va_cpy f g 0 q n))) := by
  rw [e_JS_getBytesR]
  simp only [s_JS_getBytesR_0, s_JS_getBytesR_1, s_JS_getBytesR_4, s_JS_getBytesR_5, s_JS_getBytesR_8, s_JS_getBytesR_9, s_JS_getBytesR_12, s_JS_getBytesR_13, s_JS_getBytesR_14, s_JS_getBytesR_15, s_JS_getBytesR_16, s_JS_getBytesR_17, s_JS_getBytesR_18, s_JS_getBytesR_21, s_JS_getBytesR_22, s_JS_getBytesR_25, s_JS_getBytesR_28, s_JS_getBytesR_29, s_JS_getBytesR_32, s_JS_getBytesR_33, s_JS_getBytesR_34, s_JS_getBytesR_35, s_JS_getBytesR_36, s_JS_getBytesR_39, s_JS_getBytesR_43, xf_of ha, xc_of ha, xll_12, xlg_12_0, xlg_12_1, xlg_12_2, xlg_12_3, not_false_eq_true, Nat.reduceLT, Nat.reduceAdd, true_and, and_true, if_true, if_false, ite_true, ite_false, xnb_0, xnb_1, xnb_b, xk_v, xk_n, xln_B hb, Option.isSome_some, Option.getD_some, f_JS_coderR ha, sb_shl0, xBl_of hb, xBf_of hb, xBl_of hv, xBf_of hv, xisA_of hb, xisA_of hv, ncl (show n < 2147483648 by omega), ncl (show q < 2147483648 by omega), nI_n0 n (by omega), nI_n0 q (by omega), show (0 : Int32).toNatClampNeg = 0 from rfl, show ((0 : Int32) < 0) = False from eq_false (by decide), Nat.zero_add, Nat.le_refl, eq_true h, eq_true hk]
variable {y : xM} {pc : Nat} {ls : List (Option Value)} {st : List Value}
theorem xr_cp {k l r2 r3 x i : Nat} {sp dp nn : Int32} (hi : i < 43) (h : y.cd pc = some (.invokestatic k, l, 8, r2, r3, x)) (hs : xsm st ≤ 8) : xr E d y Q (pc, ls, .int nn :: .int dp :: .ref v :: .int sp :: .retAddr (101 + 2 * i) :: st, H) = ((¬ sp < 0 ∧ ¬ dp < 0 ∧ ¬ nn < 0 ∧ sp.toNatClampNeg + nn.toNatClampNeg ≤ tln i ∧ dp.toNatClampNeg + nn.toNatClampNeg ≤ xlenB H v ∧ xisA H v) ∧ xr E d y Q (pc + 3, ls, st, xset H v (xarB (xlenB H v) (va_cpy (fun k => tch i k) (xfnB H v) sp.toNatClampNeg dp.toNatClampNeg nn.toNatClampNeg)))) := by
  refine xr_n3 (g := ¬ sp < 0 ∧ ¬ dp < 0 ∧ ¬ nn < 0 ∧ sp.toNatClampNeg + nn.toNatClampNeg ≤ tln i ∧ dp.toNatClampNeg + nn.toNatClampNeg ≤ xlenB H v ∧ xisA H v ∧ xsm st ≤ 8) ?_ ⟨fun q => ⟨q.1, q.2.1, q.2.2.1, q.2.2.2.1, q.2.2.2.2.1, q.2.2.2.2.2.1⟩, fun q => ⟨q.1, q.2.1, q.2.2.1, q.2.2.2.1, q.2.2.2.2.1, q.2.2.2.2.2, hs⟩⟩
  unfold xact
  rw [h]
  dsimp only
  unfold xop
  dsimp only
  rw [if_pos rfl, xB_i hi]
  rfl
theorem f_JS_getBytes {i : Nat} (hi : i < 43) (hv : H.1 v = xarB m g) (h : q + tln i ≤ m) (hm : m ≤ 1000000) : xcall E xprog (d + 2) 140 [.retAddr (100 + 2 * i), .ref v, .int (nI q), .int 0] H Q = Q (.inl none, xset H v (xarB m (va_cpy (fun k => tch i k) g 0 q (tln i)))) := by
  have h2 := (tx_ok i hi).1
  rw [e_JS_getBytes]
  simp only [s_JS_getBytes_0, s_JS_getBytes_1, s_JS_getBytes_4, s_JS_getBytes_5, s_JS_getBytes_8, s_JS_getBytes_12, s_JS_getBytes_13, s_JS_getBytes_14, s_JS_getBytes_15, s_JS_getBytes_16, s_JS_getBytes_17, s_JS_getBytes_25, s_JS_getBytes_28, s_JS_getBytes_32, s_JS_getBytes_33, s_JS_getBytes_34, s_JS_getBytes_35, s_JS_getBytes_43, xr_gv hi (y := m_JS_getBytes) (pc := 9) rfl, xr_gv hi (y := m_JS_getBytes) (pc := 18) rfl, xr_al hi (y := m_JS_getBytes) (pc := 21) rfl, xr_cp hi (y := m_JS_getBytes) (pc := 22) (st := []) rfl (Nat.le_of_ble_eq_true rfl), f_JS_coder hi, not_false_eq_true, Nat.reduceLT, Nat.reduceAdd, true_and, and_true, if_true, if_false, ite_true, ite_false, xnb_0, xnb_1, xnb_b, xk_v, xk_n, xT_i hi, sb_shl0, xBl_of hv, xBf_of hv, xisA_of hv, ncl (show tln i < 2147483648 by omega), ncl (show q < 2147483648 by omega), nI_n0 (tln i) (by omega), nI_n0 q (by omega), show (0 : Int32).toNatClampNeg = 0 from rfl, show ((0 : Int32) < 0) = False from eq_false (by decide), Nat.zero_add, Nat.le_refl, eq_true h]
  simp
/-- a text's length, coder, and its bytes into a row -/
theorem st_len (h : stV H sv L) : xcall E xprog (d + 2) 136 [sv] H Q = Q (.inl (some (.int (nI L.length))), H) := by
  rcases h with ⟨i, hi, rfl, h1, h2⟩ | ⟨a, b, f, rfl, h1, h2, -⟩
  · rw [f_JS_length hi, h1]
  · exact f_JS_lengthR h1 h2
theorem st_cod (h : stV H sv L) : xcall E xprog (d + 1) 142 [sv] H Q = Q (.inl (some (.int 0)), H) := by
  rcases h with ⟨i, hi, rfl, h1, h2⟩ | ⟨a, b, f, rfl, h1, h2, -⟩
  · exact f_JS_coder hi
  · exact f_JS_coderR h1
theorem st_rok (h : stV H sv L) : xrok H 12 sv ∧ xisr sv = true := by
  rcases h with ⟨i, hi, rfl, h1, h2⟩ | ⟨a, b, f, rfl, h1, h2, -⟩
  · exact ⟨⟨rfl, i, xT_i hi⟩, rfl⟩
  · exact ⟨⟨xc_of h1, by decide⟩, rfl⟩
theorem st_get (hs : stV H sv L) (hv : H.1 v = xarB m g) (h : q + L.length ≤ m) (hm : m ≤ 1000000) (hg : xbok m g) : ∃ g', (∀ Q, xcall E xprog (d + 2) 140 [sv, .ref v, .int (nI q), .int 0] H Q = Q (.inl none, xset H v (xarB m g'))) ∧ xbok m g' ∧ (∀ j, j < L.length → g' (q + j) = nI (L.getD j 0)) ∧ ∀ j, j < q → g' j = g j := by
  rcases hs with ⟨i, hi, rfl, h1, h2⟩ | ⟨a, b, f, rfl, h1, h2, h3, h4, -⟩
  · refine ⟨_, fun Q => f_JS_getBytes hi hv (by omega) hm, ?_, fun j hj => ?_, fun j hj => ?_⟩
    · intro j hj
      unfold va_cpy
      split
      · exact xtb_fit _ _
      · exact hg j hj
    · rw [pk_cpy_in (by omega) (by omega), show 0 + (q + j - q) = j by omega]
      exact h2 j hj
    · exact pk_cpy_out (by omega)
  · refine ⟨_, fun Q => f_JS_getBytesR h1 h2 h4 hv h hm, ?_, fun j hj => ?_, fun j hj => ?_⟩
    · intro j hj
      unfold va_cpy
      split
      · exact h4 _ (by omega)
      · exact hg j hj
    · rw [pk_cpy_in (by omega) (by omega), show 0 + (q + j - q) = j by omega]
      exact h3 j hj
    · exact pk_cpy_out (by omega)
end STR
