/-! ===== the JDK's text methods, over a constant text ===== -/
section TEXT
variable {E : xE} {d : Nat} {Q : xR → Prop} {H : xH} {y : xM} {pc : Nat} {ls : List (Option Value)} {st : List Value}
theorem xtb_is : xtb = [[110, 111, 114, 116, 104], [101, 97, 115, 116], [115, 111, 117, 116, 104], [119, 101, 115, 116], [104, 101, 114, 101], [98, 101, 115, 116], [108, 101, 97, 102], [104, 111, 117, 114], [119, 105, 110, 100], [102, 111, 114, 99, 101], [43], [45], [42], [47], [37], [60], [62], [61], [32, 97, 110, 100, 32], [32, 111, 114, 32], [98, 97, 121, 32], [44], [59], [107, 101, 116, 116, 108, 101, 32], [32, 115, 116, 101, 97, 109, 115, 32], [99, 117, 115, 116, 111, 109, 115, 32], [98, 97, 121, 32, 107, 101, 116, 116, 108, 101, 32, 115, 116, 101, 97, 109, 115, 32, 99, 117, 115, 116, 111, 109, 115, 32, 99, 108, 105, 112, 112, 101, 114, 32, 104, 111, 109, 101, 32, 110, 111, 115, 101, 115, 32, 115, 116, 101, 101, 114, 115, 32, 105, 102, 32, 116, 104, 101, 110, 32, 101, 108, 115, 101, 32, 111, 114, 32, 97, 110, 100, 32, 110, 111, 116, 32, 108, 101, 97, 115, 116, 32, 109, 111, 115, 116, 32, 110, 111, 114, 116, 104, 32, 101, 97, 115, 116, 32, 115, 111, 117, 116, 104, 32, 119, 101, 115, 116, 32, 104, 101, 114, 101, 32, 98, 101, 115, 116, 32, 108, 101, 97, 102, 32, 104, 111, 117, 114, 32, 119, 105, 110, 100, 32, 102, 111, 114, 99, 101, 32], [40, 41, 59, 44, 60, 62, 61, 43, 45, 42, 47, 37], [99, 108, 105, 112, 112, 101, 114, 32, 99], [32, 104, 111, 109, 101, 32], [32, 110, 111, 115, 101, 115, 32], [32, 115, 116, 101, 101, 114, 115, 32], [], [45], [110, 111, 116, 32], [108, 101, 97, 115, 116, 40], [109, 111, 115, 116, 40], [44], [41], [40], [105, 102, 32], [32, 116, 104, 101, 110, 32], [32, 101, 108, 115, 101, 32]] := by
  decide +kernel
/-- text i's letter j -/
def tch (i j : Nat) : Int32 := (xtb.getD i []).getD j 0
def tln (i : Nat) : Nat := (xtb.getD i []).length
theorem xT_i {i : Nat} (h : i < 43) : xisT (100 + 2 * i) = some i := by
  unfold xisT
  rw [if_pos ⟨by omega, by omega, by omega⟩]
  congr 1
  omega
theorem xB_i {i : Nat} (h : i < 43) : xisB (101 + 2 * i) = some i := by
  unfold xisB
  rw [if_pos ⟨by omega, by omega, by omega⟩]
  congr 1
  omega
theorem xr_gv {k l r x : Nat} {i : Nat} (hi : i < 43) (h : y.cd pc = some (.getfield k, l, 12, 0, r, x)) : xr E d y Q (pc, ls, .retAddr (100 + 2 * i) :: st, H) = xr E d y Q (pc + 3, ls, .retAddr (101 + 2 * i) :: st, H) := by
  refine xr_n1 ?_
  unfold xact
  rw [h]
  show (if (12 : Nat) = 12 then (match xisT (100 + 2 * i) with | some _ => if (0 : Nat) = 0 then xnx (pc + 3) ls (.retAddr (100 + 2 * i + 1) :: st) H else xnx (pc + 3) ls (.int 0 :: st) H | none => none) else none) = _
  rw [xT_i hi, show 100 + 2 * i + 1 = 101 + 2 * i by omega]
  rfl
theorem xr_gc {k l r x : Nat} {i : Nat} (hi : i < 43) (h : y.cd pc = some (.getfield k, l, 12, 1, r, x)) : xr E d y Q (pc, ls, .retAddr (100 + 2 * i) :: st, H) = xr E d y Q (pc + 3, ls, .int 0 :: st, H) := by
  refine xr_n1 ?_
  unfold xact
  rw [h]
  show (if (12 : Nat) = 12 then (match xisT (100 + 2 * i) with | some _ => if (1 : Nat) = 0 then xnx (pc + 3) ls (.retAddr (100 + 2 * i + 1) :: st) H else xnx (pc + 3) ls (.int 0 :: st) H | none => none) else none) = _
  rw [xT_i hi]
  rfl
theorem xr_al {l r1 r2 r3 x : Nat} {i : Nat} (hi : i < 43) (h : y.cd pc = some (.arraylength, l, r1, r2, r3, x)) : xr E d y Q (pc, ls, .retAddr (101 + 2 * i) :: st, H) = xr E d y Q (pc + 1, ls, .int (nI (tln i)) :: st, H) := by
  refine xr_n1 ?_
  unfold xact
  rw [h]
  show (if 101 + 2 * i = 0 then xnx (pc + 1) ls (.int (nI E.1) :: st) H else match xisB (101 + 2 * i) with | some i => xnx (pc + 1) ls (.int (nI (xtb.getD i []).length) :: st) H | none => none) = _
  rw [if_neg (by omega), xB_i hi]
  rfl
theorem xr_bl {l r1 r2 r3 x : Nat} {i : Nat} {j : Int32} (hi : i < 43) (h : y.cd pc = some (.baload, l, r1, r2, r3, x)) : xr E d y Q (pc, ls, .int j :: .retAddr (101 + 2 * i) :: st, H) = (vp_in j (tln i) ∧ xr E d y Q (pc + 1, ls, .int (tch i j.toNatClampNeg) :: st, H)) := by
  refine xr_n3 ?_ Iff.rfl
  unfold xact
  rw [h]
  show (if 101 + 2 * i = 3 then xnx2 (vp_in j 100) (pc + 1) ls (.int (xdig (101 + 2 * i) j.toNatClampNeg) :: st) H else if 101 + 2 * i = 4 then xnx2 (vp_in j 100) (pc + 1) ls (.int (xdig (101 + 2 * i) j.toNatClampNeg) :: st) H else match xisB (101 + 2 * i) with | some i => xnx2 (vp_in j (xtb.getD i []).length) (pc + 1) ls (.int ((xtb.getD i []).getD j.toNatClampNeg 0) :: st) H | none => none) = _
  rw [if_neg (by omega), if_neg (by omega), xB_i hi]
  rfl
theorem tx_ok : ∀ i, i < 43 → tln i ≤ 200 ∧ ∀ j, j < tln i → ∃ n, 32 ≤ n ∧ n < 128 ∧ tch i j = nI n := by
  have h : ∀ i, i < 43 → tln i ≤ 200 ∧ ∀ j, j < tln i → (tch i j = nI (tch i j).toNatClampNeg ∧ 32 ≤ (tch i j).toNatClampNeg ∧ (tch i j).toNatClampNeg < 128) := by
    unfold tln tch
    rw [xtb_is]
    decide +kernel
  intro i hi
  obtain ⟨h2, h3⟩ := h i hi
  refine ⟨h2, fun j hj => ?_⟩
  obtain ⟨e1, e2, e3⟩ := h3 j hj
  exact ⟨_, e2, e3, e1⟩
theorem ch_ok : ∀ n, n < 128 → ((nI n &&& 255).toUInt32 % 65536).toInt32 = nI n ∧ narrow .char (.int (nI n)) = .int (nI n) ∧ (nI n).toInt8.toInt32 = nI n := by decide +kernel
theorem f_JS_coder {i : Nat} (hi : i < 43) : xcall E xprog (d + 1) 142 [.retAddr (100 + 2 * i)] H Q = Q (.inl (some (.int 0)), H) := by
  rw [e_JS_coder]
  simp only [s_JS_coder_0, s_JS_coder_3, s_JS_coder_6, s_JS_coder_10, s_JS_coder_13, s_JS_coder_14, xr_gc hi (y := m_JS_coder) (pc := 7) rfl, not_false_eq_true, Nat.reduceLT, Nat.reduceAdd, true_and, and_true, if_true, if_false, ite_true, ite_false, xnb_0, xnb_1, xnb_b, xk_v, xk_n, k1_0]
  simp [narrow]
theorem f_JS_isLatin1 {i : Nat} (hi : i < 43) : xcall E xprog (d + 1) 143 [.retAddr (100 + 2 * i)] H Q = Q (.inl (some (.int 1)), H) := by
  rw [e_JS_isLatin1]
  simp only [s_JS_isLatin1_0, s_JS_isLatin1_3, s_JS_isLatin1_6, s_JS_isLatin1_10, s_JS_isLatin1_13, s_JS_isLatin1_14, s_JS_isLatin1_17, s_JS_isLatin1_18, xr_gc hi (y := m_JS_isLatin1) (pc := 7) rfl, not_false_eq_true, Nat.reduceLT, Nat.reduceAdd, true_and, and_true, if_true, if_false, ite_true, ite_false, xnb_0, xnb_1, xnb_b, xk_v, xk_n, k1_0]
theorem f_JS_length {i : Nat} (hi : i < 43) : xcall E xprog (d + 2) 136 [.retAddr (100 + 2 * i)] H Q = Q (.inl (some (.int (nI (tln i)))), H) := by
  rw [e_JS_length]
  simp only [s_JS_length_0, s_JS_length_5, s_JS_length_6, s_JS_length_9, s_JS_length_10, xr_gv hi (y := m_JS_length) (pc := 1) rfl, xr_al hi (y := m_JS_length) (pc := 4) rfl, f_JS_coder hi, not_false_eq_true, Nat.reduceLT, Nat.reduceAdd, true_and, and_true, if_true, if_false, ite_true, ite_false, xnb_0, xnb_1, xnb_b, xk_v, xk_n, xT_i hi]
  simp
theorem f_JP_checkIndex {i n : Nat} (hi : i < n) (hn : n < 2147483648) (q : Nat) : xcall E xprog (d + 1) 165 [.int (nI i), .int (nI n), .retAddr q] H Q = Q (.inl (some (.int (nI i))), H) := by
  rw [e_JP_checkIndex]
  simp only [s_JP_checkIndex_0, s_JP_checkIndex_1, s_JP_checkIndex_4, s_JP_checkIndex_5, s_JP_checkIndex_6, s_JP_checkIndex_9, s_JP_checkIndex_10, s_JP_checkIndex_11, s_JP_checkIndex_16, s_JP_checkIndex_17, not_false_eq_true, Nat.reduceLT, Nat.reduceAdd, true_and, and_true, if_true, if_false, ite_true, ite_false, xnb_0, xnb_1, xnb_b, xk_v, xk_n, nI_n0 i (by omega), nlt hi hn]
theorem f_JS_checkIndex {i n : Nat} (hi : i < n) (hn : n < 2147483648) : xcall E xprog (d + 2) 144 [.int (nI i), .int (nI n)] H Q = Q (.inl none, H) := by
  rw [e_JS_checkIndex]
  simp only [s_JS_checkIndex_0, s_JS_checkIndex_1, s_JS_checkIndex_2, s_JS_checkIndex_5, s_JS_checkIndex_8, s_JS_checkIndex_9, not_false_eq_true, Nat.reduceLT, Nat.reduceAdd, true_and, and_true, if_true, if_false, ite_true, ite_false, xnb_0, xnb_1, xnb_b, xk_v, xk_n, f_JP_checkIndex hi hn]
theorem f_JL_charAt {i j : Nat} (hi : i < 43) (hj : j < tln i) : xcall E xprog (d + 3) 155 [.retAddr (101 + 2 * i), .int (nI j)] H Q = Q (.inl (some (.int (tch i j))), H) := by
  obtain ⟨h2, h3⟩ := tx_ok i hi
  obtain ⟨n, n1, n2, n3⟩ := h3 j hj
  have hc := ch_ok n n2
  rw [e_JL_charAt]
  simp only [s_JL_charAt_0, s_JL_charAt_1, s_JL_charAt_3, s_JL_charAt_6, s_JL_charAt_7, s_JL_charAt_9, s_JL_charAt_12, s_JL_charAt_13, s_JL_charAt_14, xr_al hi (y := m_JL_charAt) (pc := 2) rfl, xr_bl hi (y := m_JL_charAt) (pc := 8) rfl, not_false_eq_true, Nat.reduceLT, Nat.reduceAdd, true_and, and_true, if_true, if_false, ite_true, ite_false, xnb_0, xnb_1, xnb_b, xk_v, xk_n, f_JS_checkIndex hj (show tln i < 2147483648 by omega), nvp hj (show tln i < 2147483648 by omega), ncl (show j < 2147483648 by omega), n3, hc.1, hc.2.1]
theorem f_JS_charAt {i j : Nat} (hi : i < 43) (hj : j < tln i) : xcall E xprog (d + 4) 137 [.retAddr (100 + 2 * i), .int (nI j)] H Q = Q (.inl (some (.int (tch i j))), H) := by
  obtain ⟨h2, h3⟩ := tx_ok i hi
  obtain ⟨n, n1, n2, n3⟩ := h3 j hj
  have hc := ch_ok n n2
  rw [e_JS_charAt]
  simp only [s_JS_charAt_0, s_JS_charAt_1, s_JS_charAt_4, s_JS_charAt_7, s_JS_charAt_11, s_JS_charAt_12, s_JS_charAt_15, s_JS_charAt_16, s_JS_charAt_20, xr_gv hi (y := m_JS_charAt) (pc := 8) rfl, f_JL_charAt hi hj, f_JS_isLatin1 hi, not_false_eq_true, Nat.reduceLT, Nat.reduceAdd, true_and, and_true, if_true, if_false, ite_true, ite_false, xnb_0, xnb_1, xnb_b, xk_v, xk_n, k1_0, xT_i hi, n3, hc.2.1]
  simp
/-- the first of m letters from j on of the signs that is n; -1 -/
def sgn (n : Int32) : Nat → Nat → Int32
  | _, 0 => -1
  | j, m + 1 => if tch 27 j = n then nI j else sgn n (j + 1) m
theorem l_JL_indexOfChar (v : Int32) (z : Int32) (i1 : Int32) : ∀ m j, j + m = 12 → xr E d m_JL_indexOfChar Q (7, [some (.retAddr 155), some (.int z), some (.int i1), some (.int (nI 12)), some (.int v), some (.int (nI j))], [], H) = Q (.inl (some (.int (sgn v j m))), H) := by
  have h12 : tln 27 = 12 := by unfold tln; rw [xtb_is]; rfl
  intro m
  induction m with
  | zero =>
    intro j hj
    rw [s_JL_indexOfChar_7]
    simp only [s_JL_indexOfChar_0, s_JL_indexOfChar_1, s_JL_indexOfChar_2, s_JL_indexOfChar_4, s_JL_indexOfChar_5, s_JL_indexOfChar_9, s_JL_indexOfChar_10, s_JL_indexOfChar_13, s_JL_indexOfChar_14, s_JL_indexOfChar_17, s_JL_indexOfChar_19, s_JL_indexOfChar_22, s_JL_indexOfChar_24, s_JL_indexOfChar_25, s_JL_indexOfChar_28, s_JL_indexOfChar_31, s_JL_indexOfChar_32, not_false_eq_true, Nat.reduceLT, Nat.reduceAdd, true_and, and_true, if_true, if_false, ite_true, ite_false, xnb_0, xnb_1, xnb_b, xk_v, xk_n, nge (show 12 ≤ j by omega) (by omega), sgn]
  | succ m ih =>
    intro j hj
    have hb := fun ls st => xr_bl (E := E) (d := d) (Q := Q) (H := H) (i := 27) (j := nI j) (by decide) (y := m_JL_indexOfChar) (pc := 16) (ls := ls) (st := st) rfl
    rw [h12] at hb
    have hb' : ∀ ls st, xr E d m_JL_indexOfChar Q (16, ls, .int (nI j) :: .retAddr 155 :: st, H) = (vp_in (nI j) 12 ∧ xr E d m_JL_indexOfChar Q (16 + 1, ls, .int (tch 27 (nI j).toNatClampNeg) :: st, H)) := hb
    rw [s_JL_indexOfChar_7]
    simp only [s_JL_indexOfChar_0, s_JL_indexOfChar_1, s_JL_indexOfChar_2, s_JL_indexOfChar_4, s_JL_indexOfChar_5, s_JL_indexOfChar_9, s_JL_indexOfChar_10, s_JL_indexOfChar_13, s_JL_indexOfChar_14, s_JL_indexOfChar_17, s_JL_indexOfChar_19, s_JL_indexOfChar_22, s_JL_indexOfChar_24, s_JL_indexOfChar_25, s_JL_indexOfChar_28, s_JL_indexOfChar_31, s_JL_indexOfChar_32, not_false_eq_true, Nat.reduceLT, Nat.reduceAdd, true_and, and_true, if_true, if_false, ite_true, ite_false, xnb_0, xnb_1, xnb_b, xk_v, xk_n, nlt (show j < 12 by omega) (by omega), hb', nvp (show j < 12 by omega) (by omega), ncl (show j < 2147483648 by omega), nI_1, ih (j + 1) (by omega), sgn]
    by_cases e : tch 27 j = v
    · rw [if_pos e, if_pos e]
    · rw [if_neg e, if_neg e]
/-- a byte, as an int -/
def sb (n : Nat) : Int32 := (nI n).toInt8.toInt32
theorem f_JS_indexOf {n : Nat} (hn : n < 256) : xcall E xprog (d + 4) 138 [.retAddr 154, .int (nI n)] H Q = Q (.inl (some (.int (sgn (sb n) 0 12))), H) := by
  have h12 : tln 27 = 12 := by unfold tln; rw [xtb_is]; rfl
  have l1 : ∀ Q, xcall E xprog (d + 2) 136 [.retAddr 154] H Q = Q (.inl (some (.int (nI 12))), H) := fun Q => by
    have := f_JS_length (E := E) (d := d) (Q := Q) (H := H) (i := 27) (by decide)
    rw [h12] at this
    exact this
  have l2 : ∀ Q, xcall E xprog (d + 2) 143 [.retAddr 154] H Q = Q (.inl (some (.int 1)), H) := fun Q => f_JS_isLatin1 (i := 27) (by decide)
  have g1 : ∀ d y Q pc ls st, (∃ k l r x, y.cd pc = some (.getfield k, l, 12, 0, r, x)) → xr E d y Q (pc, ls, .retAddr 154 :: st, H) = xr E d y Q (pc + 3, ls, .retAddr 155 :: st, H) := fun d y Q pc ls st ⟨k, l, r, x, h⟩ => xr_gv (i := 27) (by decide) h
  have g2 : ∀ d y Q pc ls st, (∃ l r1 r2 r3 x, y.cd pc = some (.arraylength, l, r1, r2, r3, x)) → xr E d y Q (pc, ls, .retAddr 155 :: st, H) = xr E d y Q (pc + 1, ls, .int (nI 12) :: st, H) := fun d y Q pc ls st ⟨l, r1, r2, r3, x, h⟩ => by
    have := xr_al (E := E) (d := d) (Q := Q) (H := H) (ls := ls) (st := st) (i := 27) (by decide) h
    rw [h12] at this
    exact this
  have c1 : ∀ Q, xcall E xprog (d + 1) 157 [.int (nI n)] H Q = Q (.inl (some (.int 1)), H) := by
    intro Q
    rw [e_JL_canEncode2]
    simp only [s_JL_canEncode2_0, s_JL_canEncode2_1, s_JL_canEncode2_4, s_JL_canEncode2_5, s_JL_canEncode2_8, s_JL_canEncode2_11, s_JL_canEncode2_12, s_JL_canEncode2_15, s_JL_canEncode2_16, not_false_eq_true, Nat.reduceLT, Nat.reduceAdd, true_and, and_true, if_true, if_false, ite_true, ite_false, xnb_0, xnb_1, xnb_b, xk_v, xk_n, nI_n0 n (by omega), show ((255 : Int32) < nI n) = False from nge (n := n) (i := 255) (by omega) (by omega)]
  have c2 : ∀ Q, xcall E xprog (d + 2) 158 [.retAddr 155, .int (nI n), .int 0, .int (nI 12)] H Q = Q (.inl (some (.int (sgn (sb n) 0 12))), H) := by
    intro Q
    rw [e_JL_indexOf]
    simp only [s_JL_indexOf_0, s_JL_indexOf_1, s_JL_indexOf_4, s_JL_indexOf_7, s_JL_indexOf_8, s_JL_indexOf_9, s_JL_indexOf_10, s_JL_indexOf_11, s_JL_indexOf_14, s_JL_indexOf_15, s_JL_indexOf_16, s_JL_indexOf_18, s_JL_indexOf_21, s_JL_indexOf_22, s_JL_indexOf_23, s_JL_indexOf_24, s_JL_indexOf_27, s_JL_indexOf_28, s_JL_indexOf_29, s_JL_indexOf_30, s_JL_indexOf_31, s_JL_indexOf_32, s_JL_indexOf_33, s_JL_indexOf_36, not_false_eq_true, Nat.reduceLT, Nat.reduceAdd, true_and, and_true, if_true, if_false, ite_true, ite_false, xnb_0, xnb_1, xnb_b, xk_v, xk_n, c1, k1_0, g2 _ m_JL_indexOf _ 17 _ _ ⟨_, _, _, _, _, rfl⟩]
    rw [if_pos (by decide)]
    simp only [ite_self]
    rw [e_JL_indexOfChar]
    simp only [s_JL_indexOfChar_0, s_JL_indexOfChar_1, s_JL_indexOfChar_2, s_JL_indexOfChar_4, s_JL_indexOfChar_5]
    have l := l_JL_indexOfChar (E := E) (d := d) (H := H) (Q := xk E (d + 1) m_JL_indexOf Q 33 36 [some (.retAddr 155), some (.int (nI n)), some (.int 0), some (.int (nI 12))] []) (sb n) (nI n) 0 12 0 rfl
    refine Eq.trans l ?_
    simp only [s_JL_indexOf_0, s_JL_indexOf_1, s_JL_indexOf_4, s_JL_indexOf_7, s_JL_indexOf_8, s_JL_indexOf_9, s_JL_indexOf_10, s_JL_indexOf_11, s_JL_indexOf_14, s_JL_indexOf_15, s_JL_indexOf_16, s_JL_indexOf_18, s_JL_indexOf_21, s_JL_indexOf_22, s_JL_indexOf_23, s_JL_indexOf_24, s_JL_indexOf_27, s_JL_indexOf_28, s_JL_indexOf_29, s_JL_indexOf_30, s_JL_indexOf_31, s_JL_indexOf_32, s_JL_indexOf_33, s_JL_indexOf_36, not_false_eq_true, Nat.reduceLT, Nat.reduceAdd, true_and, and_true, if_true, if_false, ite_true, ite_false, xnb_0, xnb_1, xnb_b, xk_v, xk_n]
  rw [e_JS_indexOf]
  simp only [s_JS_indexOf_0, s_JS_indexOf_1, s_JS_indexOf_2, s_JS_indexOf_3, s_JS_indexOf_6, not_false_eq_true, Nat.reduceLT, Nat.reduceAdd, true_and, and_true, if_true, if_false, ite_true, ite_false, xnb_0, xnb_1, xnb_b, xk_v, xk_n]
  rw [e_JS_indexOf2]
  simp only [s_JS_indexOf2_0, s_JS_indexOf2_1, s_JS_indexOf2_4, s_JS_indexOf2_7, s_JS_indexOf2_11, s_JS_indexOf2_12, s_JS_indexOf2_13, s_JS_indexOf2_14, s_JS_indexOf2_17, s_JS_indexOf2_20, s_JS_indexOf2_23, s_JS_indexOf2_27, s_JS_indexOf2_28, s_JS_indexOf2_29, s_JS_indexOf2_30, s_JS_indexOf2_36, not_false_eq_true, Nat.reduceLT, Nat.reduceAdd, true_and, and_true, if_true, if_false, ite_true, ite_false, xnb_0, xnb_1, xnb_b, xk_v, xk_n, l1, l2, c2, k1_0, g1 _ m_JS_indexOf2 _ 8 _ _ ⟨_, _, _, _, rfl⟩]
  have hx : (∃ i, xisT 154 = some i) = True := eq_true ⟨27, rfl⟩
  simp only [hx, true_and, s_JS_indexOf_0, s_JS_indexOf_1, s_JS_indexOf_2, s_JS_indexOf_3, s_JS_indexOf_6, not_false_eq_true, Nat.reduceLT, Nat.reduceAdd, true_and, and_true, if_true, if_false, ite_true, ite_false, xnb_0, xnb_1, xnb_b, xk_v, xk_n]
end TEXT
