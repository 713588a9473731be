/-! ===== the model: its small methods ===== -/
section MSMALL
variable {E : xE} {d : Nat} {Q : xR → Prop} {H : xH} {K : Nat} {g : Nat → Nat → Int32} {q : Nat → Int32} {th sz ea : Int32} {tp nw kp wc sk : Nat → Int32}
theorem nI_ad (x y : Nat) : nI x + nI y = nI (x + y) := (Int32.ofNat_add x y).symm
theorem nI_mu (x y : Nat) : nI x * nI y = nI (x * y) := (Int32.ofNat_mul x y).symm
theorem nI_c (c w : Nat) : 15 + 6 * nI c + nI w = nI (15 + 6 * c + w) := by
  rw [show (6 : Int32) = nI 6 from rfl, nI_mu, show (15 : Int32) = nI 15 from rfl, nI_ad, nI_ad]
theorem nI_k (c w : Nat) : 3 + 2 * nI c + nI w = nI (3 + 2 * c + w) := by
  rw [show (2 : Int32) = nI 2 from rfl, nI_mu, show (3 : Int32) = nI 3 from rfl, nI_ad, nI_ad]
theorem f_M_cl (c w : Nat) (h : 15 + 6 * c + w < 51) : xcall E xprog (d + 1) 161 [.ref 63, .int (nI c), .int (nI w)] (mH H K th sz ea tp nw kp wc sk) Q = Q (.inl (some (.int (nw (15 + 6 * c + w)))), (mH H K th sz ea tp nw kp wc sk)) := by
  rw [e_M_cl]
  simp only [s_M_cl_0, s_M_cl_1, s_M_cl_4, s_M_cl_6, s_M_cl_8, s_M_cl_9, s_M_cl_10, s_M_cl_11, s_M_cl_12, s_M_cl_13, s_M_cl_14, mF, mC, ml_64, mf_64, mw_63, mw_64, ml_74, mf_74, mw_74, ml_75, mf_75, mw_75, ml_76, mf_76, mw_76, ml_77, mf_77, mw_77, xll_11, xlg_11_0, xlg_11_1, xlg_11_2, xlg_11_3, xlg_11_4, xlg_11_5, xlg_11_6, xlg_11_7, xlg_11_8, xls_11_0, xls_11_1, xls_11_2, xls_11_3, xls_11_4, xls_11_5, xls_11_6, xls_11_7, xls_11_8, not_false_eq_true, Nat.reduceLT, Nat.reduceAdd, true_and, and_true, if_true, if_false, ite_true, ite_false, xnb_0, xnb_1, xnb_b, xk_v, xk_n, nI_c, nvp h (by omega), ncl (show 15 + 6 * c + w < 2147483648 by omega)]
theorem f_M_let (c w : Nat) (h : 15 + 6 * c + w < 51) (v : Int32) : xcall E xprog (d + 1) 162 [.ref 63, .int (nI c), .int (nI w), .int v] (mH H K th sz ea tp nw kp wc sk) Q = Q (.inl none, mH H K th sz ea tp (upd nw (15 + 6 * c + w) v) kp wc sk) := by
  rw [e_M_let]
  simp only [s_M_let_0, s_M_let_1, s_M_let_4, s_M_let_6, s_M_let_8, s_M_let_9, s_M_let_10, s_M_let_11, s_M_let_12, s_M_let_13, s_M_let_14, s_M_let_15, mF, mC, ml_64, mf_64, mw_63, mw_64, ml_74, mf_74, mw_74, ml_75, mf_75, mw_75, ml_76, mf_76, mw_76, ml_77, mf_77, mw_77, xll_11, xlg_11_0, xlg_11_1, xlg_11_2, xlg_11_3, xlg_11_4, xlg_11_5, xlg_11_6, xlg_11_7, xlg_11_8, xls_11_0, xls_11_1, xls_11_2, xls_11_3, xls_11_4, xls_11_5, xls_11_6, xls_11_7, xls_11_8, not_false_eq_true, Nat.reduceLT, Nat.reduceAdd, true_and, and_true, if_true, if_false, ite_true, ite_false, xnb_0, xnb_1, xnb_b, xk_v, xk_n, nI_c, nvp h (by omega), ncl (show 15 + 6 * c + w < 2147483648 by omega)]
theorem f_M_ke (c w : Nat) (h : 3 + 2 * c + w < 51) : xcall E xprog (d + 1) 163 [.ref 63, .int (nI c), .int (nI w)] (mH H K th sz ea tp nw kp wc sk) Q = Q (.inl (some (.int (nw (3 + 2 * c + w)))), (mH H K th sz ea tp nw kp wc sk)) := by
  rw [e_M_ke]
  simp only [s_M_ke_0, s_M_ke_1, s_M_ke_4, s_M_ke_5, s_M_ke_6, s_M_ke_7, s_M_ke_8, s_M_ke_9, s_M_ke_10, s_M_ke_11, s_M_ke_12, mF, mC, ml_64, mf_64, mw_63, mw_64, ml_74, mf_74, mw_74, ml_75, mf_75, mw_75, ml_76, mf_76, mw_76, ml_77, mf_77, mw_77, xll_11, xlg_11_0, xlg_11_1, xlg_11_2, xlg_11_3, xlg_11_4, xlg_11_5, xlg_11_6, xlg_11_7, xlg_11_8, xls_11_0, xls_11_1, xls_11_2, xls_11_3, xls_11_4, xls_11_5, xls_11_6, xls_11_7, xls_11_8, not_false_eq_true, Nat.reduceLT, Nat.reduceAdd, true_and, and_true, if_true, if_false, ite_true, ite_false, xnb_0, xnb_1, xnb_b, xk_v, xk_n, nI_k, nvp h (by omega), ncl (show 3 + 2 * c + w < 2147483648 by omega)]
theorem f_M_letKettle (c w : Nat) (h : 3 + 2 * c + w < 51) (v : Int32) : xcall E xprog (d + 1) 164 [.ref 63, .int (nI c), .int (nI w), .int v] (mH H K th sz ea tp nw kp wc sk) Q = Q (.inl none, mH H K th sz ea tp (upd nw (3 + 2 * c + w) v) kp wc sk) := by
  rw [e_M_letKettle]
  simp only [s_M_letKettle_0, s_M_letKettle_1, s_M_letKettle_4, s_M_letKettle_5, s_M_letKettle_6, s_M_letKettle_7, s_M_letKettle_8, s_M_letKettle_9, s_M_letKettle_10, s_M_letKettle_11, s_M_letKettle_12, s_M_letKettle_13, mF, mC, ml_64, mf_64, mw_63, mw_64, ml_74, mf_74, mw_74, ml_75, mf_75, mw_75, ml_76, mf_76, mw_76, ml_77, mf_77, mw_77, xll_11, xlg_11_0, xlg_11_1, xlg_11_2, xlg_11_3, xlg_11_4, xlg_11_5, xlg_11_6, xlg_11_7, xlg_11_8, xls_11_0, xls_11_1, xls_11_2, xls_11_3, xls_11_4, xls_11_5, xls_11_6, xls_11_7, xls_11_8, not_false_eq_true, Nat.reduceLT, Nat.reduceAdd, true_and, and_true, if_true, if_false, ite_true, ite_false, xnb_0, xnb_1, xnb_b, xk_v, xk_n, nI_k, nvp h (by omega), ncl (show 3 + 2 * c + w < 2147483648 by omega)]
theorem f_M_across (x : Int32) : xcall E xprog (d + 1) 165 [.int x] H Q = Q (.inl (some (.int (eaw x))), H) := by
  rw [e_M_across]
  simp only [s_M_across_0, s_M_across_1, s_M_across_2, s_M_across_5, s_M_across_6, s_M_across_9, s_M_across_10, s_M_across_11, s_M_across_14, s_M_across_15, s_M_across_18, s_M_across_19, not_false_eq_true, Nat.reduceLT, Nat.reduceAdd, true_and, and_true, if_true, if_false, ite_true, ite_false, xnb_0, xnb_1, xnb_b, xk_v, xk_n, eaw]
  repeat' split
  all_goals simp_all
theorem f_M_down (x : Int32) : xcall E xprog (d + 1) 166 [.int x] H Q = Q (.inl (some (.int (sow x))), H) := by
  rw [e_M_down]
  simp only [s_M_down_0, s_M_down_1, s_M_down_2, s_M_down_5, s_M_down_6, s_M_down_9, s_M_down_10, s_M_down_13, s_M_down_14, s_M_down_17, s_M_down_18, not_false_eq_true, Nat.reduceLT, Nat.reduceAdd, true_and, and_true, if_true, if_false, ite_true, ite_false, xnb_0, xnb_1, xnb_b, xk_v, xk_n, sow]
  repeat' split
  all_goals simp_all
theorem f_M_isIn (v l u : Int32) : xcall E xprog (d + 1) 153 [.int v, .int l, .int u] H Q = Q (.inl (some (.int (xb (¬ v < l ∧ ¬ u < v)))), H) := by
  rw [e_M_isIn]
  simp only [s_M_isIn_0, s_M_isIn_1, s_M_isIn_2, s_M_isIn_5, s_M_isIn_6, s_M_isIn_7, s_M_isIn_10, s_M_isIn_11, s_M_isIn_14, s_M_isIn_15, not_false_eq_true, Nat.reduceLT, Nat.reduceAdd, true_and, and_true, if_true, if_false, ite_true, ite_false, xnb_0, xnb_1, xnb_b, xk_v, xk_n]
  repeat' split
  all_goals simp_all [xb, -Int32.not_lt]
theorem f_M_isCell (hM : kM H K g q) (hK : mK K) (x y : Int32) : xcall E xprog (d + 2) 167 [.ref 63, .int x, .int y] (mH H K th sz ea tp nw kp wc sk) Q = Q (.inl (some (.int (xb ((¬ x < 0 ∧ ¬ q 0 - 1 < x) ∧ ¬ y < 0 ∧ ¬ q 1 - 1 < y)))), (mH H K th sz ea tp nw kp wc sk)) := by
  rw [e_M_isCell]
  simp only [s_M_isCell_0, s_M_isCell_1, s_M_isCell_2, s_M_isCell_3, s_M_isCell_6, s_M_isCell_9, s_M_isCell_10, s_M_isCell_11, s_M_isCell_14, s_M_isCell_17, s_M_isCell_18, s_M_isCell_19, s_M_isCell_20, s_M_isCell_23, s_M_isCell_26, s_M_isCell_27, s_M_isCell_28, s_M_isCell_31, s_M_isCell_34, s_M_isCell_35, s_M_isCell_38, s_M_isCell_39, mF, mC, ml_64, mf_64, mw_63, mw_64, ml_74, mf_74, mw_74, ml_75, mf_75, mw_75, ml_76, mf_76, mw_76, ml_77, mf_77, mw_77, xll_11, xlg_11_0, xlg_11_1, xlg_11_2, xlg_11_3, xlg_11_4, xlg_11_5, xlg_11_6, xlg_11_7, xlg_11_8, xls_11_0, xls_11_1, xls_11_2, xls_11_3, xls_11_4, xls_11_5, xls_11_6, xls_11_7, xls_11_8, nF hM hK, nC hM hK, nl_0 hM hK, nl_1 hM hK, nl_2 hM hK, nl_3 hM hK, nl_4 hM hK, nl_5 hM hK, nl_6 hM hK, nl_7 hM hK, nf_0 hM hK, nf_1 hM hK, nf_2 hM hK, nf_3 hM hK, nf_4 hM hK, nf_5 hM hK, nf_6 hM hK, nf_7 hM hK, xll_9, xlg_9_0, xlg_9_1, xlg_9_2, xlg_9_3, xlg_9_4, xlg_9_5, xlg_9_6, xlg_9_7, xlg_9_8, xlg_9_9, xlg_9_10, xlg_9_11, xlg_9_12, xlg_9_13, not_false_eq_true, Nat.reduceLT, Nat.reduceAdd, true_and, and_true, if_true, if_false, ite_true, ite_false, xnb_0, xnb_1, xnb_b, xk_v, xk_n, f_M_isIn, xb_0]
  by_cases p1 : ¬ x < 0 ∧ ¬ q 0 - 1 < x
  · by_cases p2 : ¬ y < 0 ∧ ¬ q 1 - 1 < y
    · rw [if_neg (not_not_intro p1), if_neg (not_not_intro p2), xb_t ⟨p1, p2⟩]
    · rw [if_neg (not_not_intro p1), if_pos p2, xb_f (fun z => p2 z.2)]
  · rw [if_pos p1, xb_f (fun z => p1 z.1)]
/-- a column (row) is within, told by the model's comparison and by the class's -/
theorem in_sz {n x : Int32} (h : 0 < n) : (¬ n - 1 < x) = (x < n) := by
  have h0 : 0 < n.toInt := Int32.lt_iff_toInt_lt.mp h
  have hn := n.toInt_lt
  have e : (n - 1).toInt = n.toInt - 1 := by
    rw [Int32.toInt_sub, show (1 : Int32).toInt = 1 from rfl]
    exact Int.bmod_eq_of_le (by omega) (by omega)
  rw [Int32.lt_iff_toInt_lt, Int32.lt_iff_toInt_lt, e]
  exact propext ⟨fun z => by omega, fun z => by omega⟩
theorem g_M_isCell (hM : kM H K g q) (hK : mK K) {s : Nat → Int32} (h0 : q 0 = s 0) (h1 : q 1 = s 1) (p0 : 0 < s 0) (p1 : 0 < s 1) (x y : Int32) : xcall E xprog (d + 2) 167 [.ref 63, .int x, .int y] (mH H K th sz ea tp nw kp wc sk) Q = Q (.inl (some (.int (celC s x y))), (mH H K th sz ea tp nw kp wc sk)) := by
  rw [f_M_isCell hM hK]
  have e0 : (¬ q 0 - 1 < x) = (x < s 0) := by rw [h0]; exact in_sz p0
  have e1 : (¬ q 1 - 1 < y) = (y < s 1) := by rw [h1]; exact in_sz p1
  have e : xb ((¬ x < 0 ∧ ¬ q 0 - 1 < x) ∧ ¬ y < 0 ∧ ¬ q 1 - 1 < y) = celC s x y := by
    unfold celC
    by_cases z : ¬ x < 0 ∧ x < s 0 ∧ ¬ y < 0 ∧ y < s 1
    · rw [xb_t z, xb_t ⟨⟨z.1, e0.mpr z.2.1⟩, z.2.2.1, e1.mpr z.2.2.2⟩]
    · rw [xb_f z, xb_f (fun w => z ⟨w.1.1, e0.mp w.1.2, w.2.1, e1.mp w.2.2⟩)]
  rw [e]
theorem c_cl_0 (c : Nat) (h : c < 6) : xcall E xprog (d + 1) 161 [.ref 63, .int (nI c), .int 0] (mH H K th sz ea tp nw kp wc sk) Q = Q (.inl (some (.int (nw (15 + 6 * c + 0)))), (mH H K th sz ea tp nw kp wc sk)) := f_M_cl c 0 (by omega)
theorem c_let_0 (c : Nat) (h : c < 6) (v : Int32) : xcall E xprog (d + 1) 162 [.ref 63, .int (nI c), .int 0, .int v] (mH H K th sz ea tp nw kp wc sk) Q = Q (.inl none, mH H K th sz ea tp (upd nw (15 + 6 * c + 0) v) kp wc sk) := f_M_let c 0 (by omega) v
theorem c_cl_1 (c : Nat) (h : c < 6) : xcall E xprog (d + 1) 161 [.ref 63, .int (nI c), .int 1] (mH H K th sz ea tp nw kp wc sk) Q = Q (.inl (some (.int (nw (15 + 6 * c + 1)))), (mH H K th sz ea tp nw kp wc sk)) := f_M_cl c 1 (by omega)
theorem c_let_1 (c : Nat) (h : c < 6) (v : Int32) : xcall E xprog (d + 1) 162 [.ref 63, .int (nI c), .int 1, .int v] (mH H K th sz ea tp nw kp wc sk) Q = Q (.inl none, mH H K th sz ea tp (upd nw (15 + 6 * c + 1) v) kp wc sk) := f_M_let c 1 (by omega) v
theorem c_cl_2 (c : Nat) (h : c < 6) : xcall E xprog (d + 1) 161 [.ref 63, .int (nI c), .int 2] (mH H K th sz ea tp nw kp wc sk) Q = Q (.inl (some (.int (nw (15 + 6 * c + 2)))), (mH H K th sz ea tp nw kp wc sk)) := f_M_cl c 2 (by omega)
theorem c_let_2 (c : Nat) (h : c < 6) (v : Int32) : xcall E xprog (d + 1) 162 [.ref 63, .int (nI c), .int 2, .int v] (mH H K th sz ea tp nw kp wc sk) Q = Q (.inl none, mH H K th sz ea tp (upd nw (15 + 6 * c + 2) v) kp wc sk) := f_M_let c 2 (by omega) v
theorem c_cl_3 (c : Nat) (h : c < 6) : xcall E xprog (d + 1) 161 [.ref 63, .int (nI c), .int 3] (mH H K th sz ea tp nw kp wc sk) Q = Q (.inl (some (.int (nw (15 + 6 * c + 3)))), (mH H K th sz ea tp nw kp wc sk)) := f_M_cl c 3 (by omega)
theorem c_let_3 (c : Nat) (h : c < 6) (v : Int32) : xcall E xprog (d + 1) 162 [.ref 63, .int (nI c), .int 3, .int v] (mH H K th sz ea tp nw kp wc sk) Q = Q (.inl none, mH H K th sz ea tp (upd nw (15 + 6 * c + 3) v) kp wc sk) := f_M_let c 3 (by omega) v
theorem c_cl_4 (c : Nat) (h : c < 6) : xcall E xprog (d + 1) 161 [.ref 63, .int (nI c), .int 4] (mH H K th sz ea tp nw kp wc sk) Q = Q (.inl (some (.int (nw (15 + 6 * c + 4)))), (mH H K th sz ea tp nw kp wc sk)) := f_M_cl c 4 (by omega)
theorem c_let_4 (c : Nat) (h : c < 6) (v : Int32) : xcall E xprog (d + 1) 162 [.ref 63, .int (nI c), .int 4, .int v] (mH H K th sz ea tp nw kp wc sk) Q = Q (.inl none, mH H K th sz ea tp (upd nw (15 + 6 * c + 4) v) kp wc sk) := f_M_let c 4 (by omega) v
theorem c_cl_5 (c : Nat) (h : c < 6) : xcall E xprog (d + 1) 161 [.ref 63, .int (nI c), .int 5] (mH H K th sz ea tp nw kp wc sk) Q = Q (.inl (some (.int (nw (15 + 6 * c + 5)))), (mH H K th sz ea tp nw kp wc sk)) := f_M_cl c 5 (by omega)
theorem c_let_5 (c : Nat) (h : c < 6) (v : Int32) : xcall E xprog (d + 1) 162 [.ref 63, .int (nI c), .int 5, .int v] (mH H K th sz ea tp nw kp wc sk) Q = Q (.inl none, mH H K th sz ea tp (upd nw (15 + 6 * c + 5) v) kp wc sk) := f_M_let c 5 (by omega) v
theorem c_ke_0 (c : Nat) (h : c < 6) : xcall E xprog (d + 1) 163 [.ref 63, .int (nI c), .int 0] (mH H K th sz ea tp nw kp wc sk) Q = Q (.inl (some (.int (nw (3 + 2 * c + 0)))), (mH H K th sz ea tp nw kp wc sk)) := f_M_ke c 0 (by omega)
theorem c_letKettle_0 (c : Nat) (h : c < 6) (v : Int32) : xcall E xprog (d + 1) 164 [.ref 63, .int (nI c), .int 0, .int v] (mH H K th sz ea tp nw kp wc sk) Q = Q (.inl none, mH H K th sz ea tp (upd nw (3 + 2 * c + 0) v) kp wc sk) := f_M_letKettle c 0 (by omega) v
theorem c_ke_1 (c : Nat) (h : c < 6) : xcall E xprog (d + 1) 163 [.ref 63, .int (nI c), .int 1] (mH H K th sz ea tp nw kp wc sk) Q = Q (.inl (some (.int (nw (3 + 2 * c + 1)))), (mH H K th sz ea tp nw kp wc sk)) := f_M_ke c 1 (by omega)
theorem c_letKettle_1 (c : Nat) (h : c < 6) (v : Int32) : xcall E xprog (d + 1) 164 [.ref 63, .int (nI c), .int 1, .int v] (mH H K th sz ea tp nw kp wc sk) Q = Q (.inl none, mH H K th sz ea tp (upd nw (3 + 2 * c + 1) v) kp wc sk) := f_M_letKettle c 1 (by omega) v
theorem kv_0 : vp_in 0 51 = True := eq_true (by unfold vp_in; decide)
theorem kc_0 : (0 : Int32).toNatClampNeg = 0 := by decide
theorem kv_1 : vp_in 1 51 = True := eq_true (by unfold vp_in; decide)
theorem kc_1 : (1 : Int32).toNatClampNeg = 1 := by decide
theorem kv_2 : vp_in 2 51 = True := eq_true (by unfold vp_in; decide)
theorem kc_2 : (2 : Int32).toNatClampNeg = 2 := by decide
end MSMALL
