/-! ===== what is asked without a number ===== -/
section PLAIN
variable {E : xE} {d n : Nat} {X : xH}
theorem st_columns (hI : IV n X) : ∃ (v : Int32) (X2 : xH), (∀ Q, xcall E xprog (d + 2) 73 [.ref 0] X Q = Q (.inl (some (.int v)), X)) ∧ (∀ Q, xcall E xprog (d + 2) 182 [.ref 63] X Q = Q (.inl (some (.int v)), X2)) ∧ IVk n 0 X2 ∧ X2.2 = X.2 := by
  obtain ⟨Kb, Ks, K, l, ep, th, T, tp, b, nm, s, a, t, g, q, co, ro, nk, nc, nn, cnt, rs, re, hD⟩ := hI
  obtain ⟨hc, _, _, hB, _, hY, _, _⟩ := id hD.1
  have e0 : q 0 = s 0 := hD.2.2.2.2.1.1.1
  have e1 : q 1 = s 1 := hD.2.2.2.2.1.1.2.1
  have e2 : q 2 = s 2 := hD.2.2.2.2.1.1.2.2.1.trans hD.2.2.2.2.1.2.2.1.1.symm
  have e4 : q 4 = s 4 := hD.2.2.2.2.1.2.1.1.trans hD.2.2.2.2.1.2.2.1.2.2.2.2.1.symm
  have hM := hD.2.1.2.1
  have hK := hD.2.1.2.2.1
  obtain ⟨kp, wc, sk, m1, m2⟩ := ivD_th hD
  unfold tgC at hc
  obtain ⟨b00, b01, b02, b03, b04, b05, b06, b07, b08, b09, b10, b11, b12, b13, b14⟩ := id hB
  refine ⟨s 0, mH X K 0 (nI l) ep tp (nwO nn a t) kp wc sk, fun Q => ?_, fun Q => ?_, ⟨Kb, Ks, K, l, ep, T, tp, b, nm, s, a, t, g, q, co, ro, nk, nc, nn, cnt, rs, re, m2 0 kp wc sk⟩, rfl⟩
  · rw [e_T_columns]
    simp only [s_T_columns_0, s_T_columns_1, s_T_columns_4, s_T_columns_7, xf_of hc, xc_of hc, xll_8, xlg_8_0, xlg_8_1, xlg_8_2, xlg_8_3, xlg_8_4, xlg_8_5, xlg_8_6, xf_of b00, xf_of b01, xc_of b00, xc_of b01, xIl_of b02, xIf_of b02, xIl_of b03, xIf_of b03, xIl_of b04, xIf_of b04, xIl_of b05, xIf_of b05, xIl_of b06, xIf_of b06, xIl_of b07, xIf_of b07, xIl_of b08, xIf_of b08, xIl_of b10, xIf_of b10, xIl_of b11, xIf_of b11, xIl_of b12, xIf_of b12, xIl_of b13, xIf_of b13, xIl_of b14, xIf_of b14, xJl_of b09, xJf_of b09, xll_1, xlg_1_0, xlg_1_1, xlg_1_2, xlg_1_3, xlg_1_4, xlg_1_5, xlg_1_6, xlg_1_7, xlg_1_8, xlg_1_9, xlg_1_10, xlg_1_11, xlg_1_12, xlg_1_13, xlg_1_14, xlg_1_15, xlg_1_16, xll_5, xlg_5_0, xlg_5_1, xlg_5_2, not_false_eq_true, Nat.reduceLT, Nat.reduceAdd, true_and, and_true, if_true, if_false, ite_true, ite_false, xnb_0, xnb_1, xnb_b, xk_v, xk_n]
  · refine (congrArg (fun Z => xcall E xprog (d + 2) 182 [.ref 63] Z Q) m1).trans ?_
    show xcall E xprog (d + 2) 182 [.ref 63] (mH X K th (nI l) ep tp (nwO nn a t) kp wc sk) Q = _
    rw [e_M_columns]
    simp only [s_M_columns_0, s_M_columns_1, s_M_columns_2, s_M_columns_5, s_M_columns_8, s_M_columns_11, mF, mC, ml_64, mf_64, mw_63, mw_64, ml_74, mf_74, mw_74, ml_75, mf_75, mw_75, ml_76, mf_76, mw_76, ml_77, mf_77, mw_77, xll_11, xlg_11_0, xlg_11_1, xlg_11_2, xlg_11_3, xlg_11_4, xlg_11_5, xlg_11_6, xlg_11_7, xlg_11_8, xls_11_0, xls_11_1, xls_11_2, xls_11_3, xls_11_4, xls_11_5, xls_11_6, xls_11_7, xls_11_8, nF hM hK, nC hM hK, nl_0 hM hK, nl_1 hM hK, nl_2 hM hK, nl_3 hM hK, nl_4 hM hK, nl_5 hM hK, nl_6 hM hK, nl_7 hM hK, nf_0 hM hK, nf_1 hM hK, nf_2 hM hK, nf_3 hM hK, nf_4 hM hK, nf_5 hM hK, nf_6 hM hK, nf_7 hM hK, xll_9, xlg_9_0, xlg_9_1, xlg_9_2, xlg_9_3, xlg_9_4, xlg_9_5, xlg_9_6, xlg_9_7, xlg_9_8, xlg_9_9, xlg_9_10, xlg_9_11, xlg_9_12, xlg_9_13, not_false_eq_true, Nat.reduceLT, Nat.reduceAdd, true_and, and_true, if_true, if_false, ite_true, ite_false, xnb_0, xnb_1, xnb_b, xk_v, xk_n, e_M_told, s_M_told_0, s_M_told_1, s_M_told_2, s_M_told_5, s_M_told_6, e0, e1, e2, e4]
theorem st_rows (hI : IV n X) : ∃ (v : Int32) (X2 : xH), (∀ Q, xcall E xprog (d + 2) 74 [.ref 0] X Q = Q (.inl (some (.int v)), X)) ∧ (∀ Q, xcall E xprog (d + 2) 183 [.ref 63] X Q = Q (.inl (some (.int v)), X2)) ∧ IVk n 0 X2 ∧ X2.2 = X.2 := by
  obtain ⟨Kb, Ks, K, l, ep, th, T, tp, b, nm, s, a, t, g, q, co, ro, nk, nc, nn, cnt, rs, re, hD⟩ := hI
  obtain ⟨hc, _, _, hB, _, hY, _, _⟩ := id hD.1
  have e0 : q 0 = s 0 := hD.2.2.2.2.1.1.1
  have e1 : q 1 = s 1 := hD.2.2.2.2.1.1.2.1
  have e2 : q 2 = s 2 := hD.2.2.2.2.1.1.2.2.1.trans hD.2.2.2.2.1.2.2.1.1.symm
  have e4 : q 4 = s 4 := hD.2.2.2.2.1.2.1.1.trans hD.2.2.2.2.1.2.2.1.2.2.2.2.1.symm
  have hM := hD.2.1.2.1
  have hK := hD.2.1.2.2.1
  obtain ⟨kp, wc, sk, m1, m2⟩ := ivD_th hD
  unfold tgC at hc
  obtain ⟨b00, b01, b02, b03, b04, b05, b06, b07, b08, b09, b10, b11, b12, b13, b14⟩ := id hB
  refine ⟨s 1, mH X K 0 (nI l) ep tp (nwO nn a t) kp wc sk, fun Q => ?_, fun Q => ?_, ⟨Kb, Ks, K, l, ep, T, tp, b, nm, s, a, t, g, q, co, ro, nk, nc, nn, cnt, rs, re, m2 0 kp wc sk⟩, rfl⟩
  · rw [e_T_rows]
    simp only [s_T_rows_0, s_T_rows_1, s_T_rows_4, s_T_rows_7, xf_of hc, xc_of hc, xll_8, xlg_8_0, xlg_8_1, xlg_8_2, xlg_8_3, xlg_8_4, xlg_8_5, xlg_8_6, xf_of b00, xf_of b01, xc_of b00, xc_of b01, xIl_of b02, xIf_of b02, xIl_of b03, xIf_of b03, xIl_of b04, xIf_of b04, xIl_of b05, xIf_of b05, xIl_of b06, xIf_of b06, xIl_of b07, xIf_of b07, xIl_of b08, xIf_of b08, xIl_of b10, xIf_of b10, xIl_of b11, xIf_of b11, xIl_of b12, xIf_of b12, xIl_of b13, xIf_of b13, xIl_of b14, xIf_of b14, xJl_of b09, xJf_of b09, xll_1, xlg_1_0, xlg_1_1, xlg_1_2, xlg_1_3, xlg_1_4, xlg_1_5, xlg_1_6, xlg_1_7, xlg_1_8, xlg_1_9, xlg_1_10, xlg_1_11, xlg_1_12, xlg_1_13, xlg_1_14, xlg_1_15, xlg_1_16, xll_5, xlg_5_0, xlg_5_1, xlg_5_2, not_false_eq_true, Nat.reduceLT, Nat.reduceAdd, true_and, and_true, if_true, if_false, ite_true, ite_false, xnb_0, xnb_1, xnb_b, xk_v, xk_n]
  · refine (congrArg (fun Z => xcall E xprog (d + 2) 183 [.ref 63] Z Q) m1).trans ?_
    show xcall E xprog (d + 2) 183 [.ref 63] (mH X K th (nI l) ep tp (nwO nn a t) kp wc sk) Q = _
    rw [e_M_rows]
    simp only [s_M_rows_0, s_M_rows_1, s_M_rows_2, s_M_rows_5, s_M_rows_8, s_M_rows_11, mF, mC, ml_64, mf_64, mw_63, mw_64, ml_74, mf_74, mw_74, ml_75, mf_75, mw_75, ml_76, mf_76, mw_76, ml_77, mf_77, mw_77, xll_11, xlg_11_0, xlg_11_1, xlg_11_2, xlg_11_3, xlg_11_4, xlg_11_5, xlg_11_6, xlg_11_7, xlg_11_8, xls_11_0, xls_11_1, xls_11_2, xls_11_3, xls_11_4, xls_11_5, xls_11_6, xls_11_7, xls_11_8, nF hM hK, nC hM hK, nl_0 hM hK, nl_1 hM hK, nl_2 hM hK, nl_3 hM hK, nl_4 hM hK, nl_5 hM hK, nl_6 hM hK, nl_7 hM hK, nf_0 hM hK, nf_1 hM hK, nf_2 hM hK, nf_3 hM hK, nf_4 hM hK, nf_5 hM hK, nf_6 hM hK, nf_7 hM hK, xll_9, xlg_9_0, xlg_9_1, xlg_9_2, xlg_9_3, xlg_9_4, xlg_9_5, xlg_9_6, xlg_9_7, xlg_9_8, xlg_9_9, xlg_9_10, xlg_9_11, xlg_9_12, xlg_9_13, not_false_eq_true, Nat.reduceLT, Nat.reduceAdd, true_and, and_true, if_true, if_false, ite_true, ite_false, xnb_0, xnb_1, xnb_b, xk_v, xk_n, e_M_told, s_M_told_0, s_M_told_1, s_M_told_2, s_M_told_5, s_M_told_6, e0, e1, e2, e4]
theorem st_kettles (hI : IV n X) : ∃ (v : Int32) (X2 : xH), (∀ Q, xcall E xprog (d + 2) 75 [.ref 0] X Q = Q (.inl (some (.int v)), X)) ∧ (∀ Q, xcall E xprog (d + 2) 184 [.ref 63] X Q = Q (.inl (some (.int v)), X2)) ∧ IVk n 0 X2 ∧ X2.2 = X.2 := by
  obtain ⟨Kb, Ks, K, l, ep, th, T, tp, b, nm, s, a, t, g, q, co, ro, nk, nc, nn, cnt, rs, re, hD⟩ := hI
  obtain ⟨hc, _, _, hB, _, hY, _, _⟩ := id hD.1
  have e0 : q 0 = s 0 := hD.2.2.2.2.1.1.1
  have e1 : q 1 = s 1 := hD.2.2.2.2.1.1.2.1
  have e2 : q 2 = s 2 := hD.2.2.2.2.1.1.2.2.1.trans hD.2.2.2.2.1.2.2.1.1.symm
  have e4 : q 4 = s 4 := hD.2.2.2.2.1.2.1.1.trans hD.2.2.2.2.1.2.2.1.2.2.2.2.1.symm
  have hM := hD.2.1.2.1
  have hK := hD.2.1.2.2.1
  obtain ⟨kp, wc, sk, m1, m2⟩ := ivD_th hD
  unfold tgC at hc
  obtain ⟨b00, b01, b02, b03, b04, b05, b06, b07, b08, b09, b10, b11, b12, b13, b14⟩ := id hB
  refine ⟨s 2, mH X K 0 (nI l) ep tp (nwO nn a t) kp wc sk, fun Q => ?_, fun Q => ?_, ⟨Kb, Ks, K, l, ep, T, tp, b, nm, s, a, t, g, q, co, ro, nk, nc, nn, cnt, rs, re, m2 0 kp wc sk⟩, rfl⟩
  · rw [e_T_kettles]
    simp only [s_T_kettles_0, s_T_kettles_1, s_T_kettles_4, s_T_kettles_7, xf_of hc, xc_of hc, xll_8, xlg_8_0, xlg_8_1, xlg_8_2, xlg_8_3, xlg_8_4, xlg_8_5, xlg_8_6, xf_of b00, xf_of b01, xc_of b00, xc_of b01, xIl_of b02, xIf_of b02, xIl_of b03, xIf_of b03, xIl_of b04, xIf_of b04, xIl_of b05, xIf_of b05, xIl_of b06, xIf_of b06, xIl_of b07, xIf_of b07, xIl_of b08, xIf_of b08, xIl_of b10, xIf_of b10, xIl_of b11, xIf_of b11, xIl_of b12, xIf_of b12, xIl_of b13, xIf_of b13, xIl_of b14, xIf_of b14, xJl_of b09, xJf_of b09, xll_1, xlg_1_0, xlg_1_1, xlg_1_2, xlg_1_3, xlg_1_4, xlg_1_5, xlg_1_6, xlg_1_7, xlg_1_8, xlg_1_9, xlg_1_10, xlg_1_11, xlg_1_12, xlg_1_13, xlg_1_14, xlg_1_15, xlg_1_16, xll_5, xlg_5_0, xlg_5_1, xlg_5_2, not_false_eq_true, Nat.reduceLT, Nat.reduceAdd, true_and, and_true, if_true, if_false, ite_true, ite_false, xnb_0, xnb_1, xnb_b, xk_v, xk_n]
  · refine (congrArg (fun Z => xcall E xprog (d + 2) 184 [.ref 63] Z Q) m1).trans ?_
    show xcall E xprog (d + 2) 184 [.ref 63] (mH X K th (nI l) ep tp (nwO nn a t) kp wc sk) Q = _
    rw [e_M_kettles]
    simp only [s_M_kettles_0, s_M_kettles_1, s_M_kettles_2, s_M_kettles_5, s_M_kettles_8, s_M_kettles_11, mF, mC, ml_64, mf_64, mw_63, mw_64, ml_74, mf_74, mw_74, ml_75, mf_75, mw_75, ml_76, mf_76, mw_76, ml_77, mf_77, mw_77, xll_11, xlg_11_0, xlg_11_1, xlg_11_2, xlg_11_3, xlg_11_4, xlg_11_5, xlg_11_6, xlg_11_7, xlg_11_8, xls_11_0, xls_11_1, xls_11_2, xls_11_3, xls_11_4, xls_11_5, xls_11_6, xls_11_7, xls_11_8, nF hM hK, nC hM hK, nl_0 hM hK, nl_1 hM hK, nl_2 hM hK, nl_3 hM hK, nl_4 hM hK, nl_5 hM hK, nl_6 hM hK, nl_7 hM hK, nf_0 hM hK, nf_1 hM hK, nf_2 hM hK, nf_3 hM hK, nf_4 hM hK, nf_5 hM hK, nf_6 hM hK, nf_7 hM hK, xll_9, xlg_9_0, xlg_9_1, xlg_9_2, xlg_9_3, xlg_9_4, xlg_9_5, xlg_9_6, xlg_9_7, xlg_9_8, xlg_9_9, xlg_9_10, xlg_9_11, xlg_9_12, xlg_9_13, not_false_eq_true, Nat.reduceLT, Nat.reduceAdd, true_and, and_true, if_true, if_false, ite_true, ite_false, xnb_0, xnb_1, xnb_b, xk_v, xk_n, e_M_told, s_M_told_0, s_M_told_1, s_M_told_2, s_M_told_5, s_M_told_6, e0, e1, e2, e4]
theorem st_clippers (hI : IV n X) : ∃ (v : Int32) (X2 : xH), (∀ Q, xcall E xprog (d + 2) 76 [.ref 0] X Q = Q (.inl (some (.int v)), X)) ∧ (∀ Q, xcall E xprog (d + 2) 185 [.ref 63] X Q = Q (.inl (some (.int v)), X2)) ∧ IVk n 0 X2 ∧ X2.2 = X.2 := by
  obtain ⟨Kb, Ks, K, l, ep, th, T, tp, b, nm, s, a, t, g, q, co, ro, nk, nc, nn, cnt, rs, re, hD⟩ := hI
  obtain ⟨hc, _, _, hB, _, hY, _, _⟩ := id hD.1
  have e0 : q 0 = s 0 := hD.2.2.2.2.1.1.1
  have e1 : q 1 = s 1 := hD.2.2.2.2.1.1.2.1
  have e2 : q 2 = s 2 := hD.2.2.2.2.1.1.2.2.1.trans hD.2.2.2.2.1.2.2.1.1.symm
  have e4 : q 4 = s 4 := hD.2.2.2.2.1.2.1.1.trans hD.2.2.2.2.1.2.2.1.2.2.2.2.1.symm
  have hM := hD.2.1.2.1
  have hK := hD.2.1.2.2.1
  obtain ⟨kp, wc, sk, m1, m2⟩ := ivD_th hD
  unfold tgC at hc
  obtain ⟨b00, b01, b02, b03, b04, b05, b06, b07, b08, b09, b10, b11, b12, b13, b14⟩ := id hB
  refine ⟨s 4, mH X K 0 (nI l) ep tp (nwO nn a t) kp wc sk, fun Q => ?_, fun Q => ?_, ⟨Kb, Ks, K, l, ep, T, tp, b, nm, s, a, t, g, q, co, ro, nk, nc, nn, cnt, rs, re, m2 0 kp wc sk⟩, rfl⟩
  · rw [e_T_clippers]
    simp only [s_T_clippers_0, s_T_clippers_1, s_T_clippers_4, s_T_clippers_7, xf_of hc, xc_of hc, xll_8, xlg_8_0, xlg_8_1, xlg_8_2, xlg_8_3, xlg_8_4, xlg_8_5, xlg_8_6, xf_of b00, xf_of b01, xc_of b00, xc_of b01, xIl_of b02, xIf_of b02, xIl_of b03, xIf_of b03, xIl_of b04, xIf_of b04, xIl_of b05, xIf_of b05, xIl_of b06, xIf_of b06, xIl_of b07, xIf_of b07, xIl_of b08, xIf_of b08, xIl_of b10, xIf_of b10, xIl_of b11, xIf_of b11, xIl_of b12, xIf_of b12, xIl_of b13, xIf_of b13, xIl_of b14, xIf_of b14, xJl_of b09, xJf_of b09, xll_1, xlg_1_0, xlg_1_1, xlg_1_2, xlg_1_3, xlg_1_4, xlg_1_5, xlg_1_6, xlg_1_7, xlg_1_8, xlg_1_9, xlg_1_10, xlg_1_11, xlg_1_12, xlg_1_13, xlg_1_14, xlg_1_15, xlg_1_16, xll_5, xlg_5_0, xlg_5_1, xlg_5_2, not_false_eq_true, Nat.reduceLT, Nat.reduceAdd, true_and, and_true, if_true, if_false, ite_true, ite_false, xnb_0, xnb_1, xnb_b, xk_v, xk_n]
  · refine (congrArg (fun Z => xcall E xprog (d + 2) 185 [.ref 63] Z Q) m1).trans ?_
    show xcall E xprog (d + 2) 185 [.ref 63] (mH X K th (nI l) ep tp (nwO nn a t) kp wc sk) Q = _
    rw [e_M_clippers]
    simp only [s_M_clippers_0, s_M_clippers_1, s_M_clippers_2, s_M_clippers_5, s_M_clippers_8, s_M_clippers_11, mF, mC, ml_64, mf_64, mw_63, mw_64, ml_74, mf_74, mw_74, ml_75, mf_75, mw_75, ml_76, mf_76, mw_76, ml_77, mf_77, mw_77, xll_11, xlg_11_0, xlg_11_1, xlg_11_2, xlg_11_3, xlg_11_4, xlg_11_5, xlg_11_6, xlg_11_7, xlg_11_8, xls_11_0, xls_11_1, xls_11_2, xls_11_3, xls_11_4, xls_11_5, xls_11_6, xls_11_7, xls_11_8, nF hM hK, nC hM hK, nl_0 hM hK, nl_1 hM hK, nl_2 hM hK, nl_3 hM hK, nl_4 hM hK, nl_5 hM hK, nl_6 hM hK, nl_7 hM hK, nf_0 hM hK, nf_1 hM hK, nf_2 hM hK, nf_3 hM hK, nf_4 hM hK, nf_5 hM hK, nf_6 hM hK, nf_7 hM hK, xll_9, xlg_9_0, xlg_9_1, xlg_9_2, xlg_9_3, xlg_9_4, xlg_9_5, xlg_9_6, xlg_9_7, xlg_9_8, xlg_9_9, xlg_9_10, xlg_9_11, xlg_9_12, xlg_9_13, not_false_eq_true, Nat.reduceLT, Nat.reduceAdd, true_and, and_true, if_true, if_false, ite_true, ite_false, xnb_0, xnb_1, xnb_b, xk_v, xk_n, e_M_told, s_M_told_0, s_M_told_1, s_M_told_2, s_M_told_5, s_M_told_6, e0, e1, e2, e4]
theorem st_windDirection (hI : IV n X) : ∃ (v : Int32) (X2 : xH), (∀ Q, xcall E xprog (d + 2) 82 [.ref 0] X Q = Q (.inl (some (.int v)), X)) ∧ (∀ Q, xcall E xprog (d + 2) 193 [.ref 63] X Q = Q (.inl (some (.int v)), X2)) ∧ IVk n 0 X2 ∧ X2.2 = X.2 := by
  obtain ⟨Kb, Ks, K, l, ep, th, T, tp, b, nm, s, a, t, g, q, co, ro, nk, nc, nn, cnt, rs, re, hD⟩ := hI
  obtain ⟨hc, _, _, hB, _, hY, _, _⟩ := id hD.1
  have e0 : q 0 = s 0 := hD.2.2.2.2.1.1.1
  have e1 : q 1 = s 1 := hD.2.2.2.2.1.1.2.1
  have e2 : q 2 = s 2 := hD.2.2.2.2.1.1.2.2.1.trans hD.2.2.2.2.1.2.2.1.1.symm
  have e4 : q 4 = s 4 := hD.2.2.2.2.1.2.1.1.trans hD.2.2.2.2.1.2.2.1.2.2.2.2.1.symm
  have hM := hD.2.1.2.1
  have hK := hD.2.1.2.2.1
  obtain ⟨kp, wc, sk, m1, m2⟩ := ivD_th hD
  unfold tgC at hc
  obtain ⟨y0, y1, y2, y3, y4, y5, y6, y7, y8, y9⟩ := id hY
  refine ⟨t 0, mH X K 0 (nI l) ep tp (nwO nn a t) kp wc sk, fun Q => ?_, fun Q => ?_, ⟨Kb, Ks, K, l, ep, T, tp, b, nm, s, a, t, g, q, co, ro, nk, nc, nn, cnt, rs, re, m2 0 kp wc sk⟩, rfl⟩
  · rw [e_T_windDirection]
    simp only [s_T_windDirection_0, s_T_windDirection_1, s_T_windDirection_4, s_T_windDirection_7, xf_of hc, xc_of hc, xll_8, xlg_8_0, xlg_8_1, xlg_8_2, xlg_8_3, xlg_8_4, xlg_8_5, xlg_8_6, xf_of y0, xc_of y0, xIl_of y1, xIf_of y1, xIl_of y2, xIf_of y2, xIl_of y3, xIf_of y3, xIl_of y4, xIf_of y4, xIl_of y5, xIf_of y5, xIl_of y6, xIf_of y6, xIl_of y7, xIf_of y7, xIl_of y8, xIf_of y8, xIl_of y9, xIf_of y9, xll_0, xlg_0_0, xlg_0_1, xlg_0_2, xlg_0_3, xlg_0_4, xlg_0_5, xlg_0_6, xlg_0_7, xlg_0_8, xlg_0_9, xlg_0_10, xlg_0_11, xlg_0_12, xlg_0_13, not_false_eq_true, Nat.reduceLT, Nat.reduceAdd, true_and, and_true, if_true, if_false, ite_true, ite_false, xnb_0, xnb_1, xnb_b, xk_v, xk_n]
  · refine (congrArg (fun Z => xcall E xprog (d + 2) 193 [.ref 63] Z Q) m1).trans ?_
    show xcall E xprog (d + 2) 193 [.ref 63] (mH X K th (nI l) ep tp (nwO nn a t) kp wc sk) Q = _
    rw [e_M_windDirection]
    simp only [s_M_windDirection_0, s_M_windDirection_1, s_M_windDirection_2, s_M_windDirection_5, s_M_windDirection_6, s_M_windDirection_7, s_M_windDirection_10, mF, mC, ml_64, mf_64, mw_63, mw_64, ml_74, mf_74, mw_74, ml_75, mf_75, mw_75, ml_76, mf_76, mw_76, ml_77, mf_77, mw_77, xll_11, xlg_11_0, xlg_11_1, xlg_11_2, xlg_11_3, xlg_11_4, xlg_11_5, xlg_11_6, xlg_11_7, xlg_11_8, xls_11_0, xls_11_1, xls_11_2, xls_11_3, xls_11_4, xls_11_5, xls_11_6, xls_11_7, xls_11_8, nF hM hK, nC hM hK, nl_0 hM hK, nl_1 hM hK, nl_2 hM hK, nl_3 hM hK, nl_4 hM hK, nl_5 hM hK, nl_6 hM hK, nl_7 hM hK, nf_0 hM hK, nf_1 hM hK, nf_2 hM hK, nf_3 hM hK, nf_4 hM hK, nf_5 hM hK, nf_6 hM hK, nf_7 hM hK, xll_9, xlg_9_0, xlg_9_1, xlg_9_2, xlg_9_3, xlg_9_4, xlg_9_5, xlg_9_6, xlg_9_7, xlg_9_8, xlg_9_9, xlg_9_10, xlg_9_11, xlg_9_12, xlg_9_13, not_false_eq_true, Nat.reduceLT, Nat.reduceAdd, true_and, and_true, if_true, if_false, ite_true, ite_false, xnb_0, xnb_1, xnb_b, xk_v, xk_n, e_M_told, s_M_told_0, s_M_told_1, s_M_told_2, s_M_told_5, s_M_told_6, e0, e1, e2, e4, show vp_in (0 : Int32) 51 = True from nvp (i := 0) (by omega) (by omega), show vp_in (1 : Int32) 51 = True from nvp (i := 1) (by omega) (by omega), show vp_in (2 : Int32) 51 = True from nvp (i := 2) (by omega) (by omega), show (0 : Int32).toNatClampNeg = 0 from rfl, show (1 : Int32).toNatClampNeg = 1 from by decide, show (2 : Int32).toNatClampNeg = 2 from by decide, nw_0, nw_1, nw_2]
theorem st_windForce (hI : IV n X) : ∃ (v : Int32) (X2 : xH), (∀ Q, xcall E xprog (d + 2) 83 [.ref 0] X Q = Q (.inl (some (.int v)), X)) ∧ (∀ Q, xcall E xprog (d + 2) 194 [.ref 63] X Q = Q (.inl (some (.int v)), X2)) ∧ IVk n 0 X2 ∧ X2.2 = X.2 := by
  obtain ⟨Kb, Ks, K, l, ep, th, T, tp, b, nm, s, a, t, g, q, co, ro, nk, nc, nn, cnt, rs, re, hD⟩ := hI
  obtain ⟨hc, _, _, hB, _, hY, _, _⟩ := id hD.1
  have e0 : q 0 = s 0 := hD.2.2.2.2.1.1.1
  have e1 : q 1 = s 1 := hD.2.2.2.2.1.1.2.1
  have e2 : q 2 = s 2 := hD.2.2.2.2.1.1.2.2.1.trans hD.2.2.2.2.1.2.2.1.1.symm
  have e4 : q 4 = s 4 := hD.2.2.2.2.1.2.1.1.trans hD.2.2.2.2.1.2.2.1.2.2.2.2.1.symm
  have hM := hD.2.1.2.1
  have hK := hD.2.1.2.2.1
  obtain ⟨kp, wc, sk, m1, m2⟩ := ivD_th hD
  unfold tgC at hc
  obtain ⟨y0, y1, y2, y3, y4, y5, y6, y7, y8, y9⟩ := id hY
  refine ⟨t 1, mH X K 0 (nI l) ep tp (nwO nn a t) kp wc sk, fun Q => ?_, fun Q => ?_, ⟨Kb, Ks, K, l, ep, T, tp, b, nm, s, a, t, g, q, co, ro, nk, nc, nn, cnt, rs, re, m2 0 kp wc sk⟩, rfl⟩
  · rw [e_T_windForce]
    simp only [s_T_windForce_0, s_T_windForce_1, s_T_windForce_4, s_T_windForce_7, xf_of hc, xc_of hc, xll_8, xlg_8_0, xlg_8_1, xlg_8_2, xlg_8_3, xlg_8_4, xlg_8_5, xlg_8_6, xf_of y0, xc_of y0, xIl_of y1, xIf_of y1, xIl_of y2, xIf_of y2, xIl_of y3, xIf_of y3, xIl_of y4, xIf_of y4, xIl_of y5, xIf_of y5, xIl_of y6, xIf_of y6, xIl_of y7, xIf_of y7, xIl_of y8, xIf_of y8, xIl_of y9, xIf_of y9, xll_0, xlg_0_0, xlg_0_1, xlg_0_2, xlg_0_3, xlg_0_4, xlg_0_5, xlg_0_6, xlg_0_7, xlg_0_8, xlg_0_9, xlg_0_10, xlg_0_11, xlg_0_12, xlg_0_13, not_false_eq_true, Nat.reduceLT, Nat.reduceAdd, true_and, and_true, if_true, if_false, ite_true, ite_false, xnb_0, xnb_1, xnb_b, xk_v, xk_n]
  · refine (congrArg (fun Z => xcall E xprog (d + 2) 194 [.ref 63] Z Q) m1).trans ?_
    show xcall E xprog (d + 2) 194 [.ref 63] (mH X K th (nI l) ep tp (nwO nn a t) kp wc sk) Q = _
    rw [e_M_windForce]
    simp only [s_M_windForce_0, s_M_windForce_1, s_M_windForce_2, s_M_windForce_5, s_M_windForce_6, s_M_windForce_7, s_M_windForce_10, mF, mC, ml_64, mf_64, mw_63, mw_64, ml_74, mf_74, mw_74, ml_75, mf_75, mw_75, ml_76, mf_76, mw_76, ml_77, mf_77, mw_77, xll_11, xlg_11_0, xlg_11_1, xlg_11_2, xlg_11_3, xlg_11_4, xlg_11_5, xlg_11_6, xlg_11_7, xlg_11_8, xls_11_0, xls_11_1, xls_11_2, xls_11_3, xls_11_4, xls_11_5, xls_11_6, xls_11_7, xls_11_8, nF hM hK, nC hM hK, nl_0 hM hK, nl_1 hM hK, nl_2 hM hK, nl_3 hM hK, nl_4 hM hK, nl_5 hM hK, nl_6 hM hK, nl_7 hM hK, nf_0 hM hK, nf_1 hM hK, nf_2 hM hK, nf_3 hM hK, nf_4 hM hK, nf_5 hM hK, nf_6 hM hK, nf_7 hM hK, xll_9, xlg_9_0, xlg_9_1, xlg_9_2, xlg_9_3, xlg_9_4, xlg_9_5, xlg_9_6, xlg_9_7, xlg_9_8, xlg_9_9, xlg_9_10, xlg_9_11, xlg_9_12, xlg_9_13, not_false_eq_true, Nat.reduceLT, Nat.reduceAdd, true_and, and_true, if_true, if_false, ite_true, ite_false, xnb_0, xnb_1, xnb_b, xk_v, xk_n, e_M_told, s_M_told_0, s_M_told_1, s_M_told_2, s_M_told_5, s_M_told_6, e0, e1, e2, e4, show vp_in (0 : Int32) 51 = True from nvp (i := 0) (by omega) (by omega), show vp_in (1 : Int32) 51 = True from nvp (i := 1) (by omega) (by omega), show vp_in (2 : Int32) 51 = True from nvp (i := 2) (by omega) (by omega), show (0 : Int32).toNatClampNeg = 0 from rfl, show (1 : Int32).toNatClampNeg = 1 from by decide, show (2 : Int32).toNatClampNeg = 2 from by decide, nw_0, nw_1, nw_2]
theorem st_hour (hI : IV n X) : ∃ (v : Int32) (X2 : xH), (∀ Q, xcall E xprog (d + 2) 84 [.ref 0] X Q = Q (.inl (some (.int v)), X)) ∧ (∀ Q, xcall E xprog (d + 2) 195 [.ref 63] X Q = Q (.inl (some (.int v)), X2)) ∧ IVk n 0 X2 ∧ X2.2 = X.2 := by
  obtain ⟨Kb, Ks, K, l, ep, th, T, tp, b, nm, s, a, t, g, q, co, ro, nk, nc, nn, cnt, rs, re, hD⟩ := hI
  obtain ⟨hc, _, _, hB, _, hY, _, _⟩ := id hD.1
  have e0 : q 0 = s 0 := hD.2.2.2.2.1.1.1
  have e1 : q 1 = s 1 := hD.2.2.2.2.1.1.2.1
  have e2 : q 2 = s 2 := hD.2.2.2.2.1.1.2.2.1.trans hD.2.2.2.2.1.2.2.1.1.symm
  have e4 : q 4 = s 4 := hD.2.2.2.2.1.2.1.1.trans hD.2.2.2.2.1.2.2.1.2.2.2.2.1.symm
  have hM := hD.2.1.2.1
  have hK := hD.2.1.2.2.1
  obtain ⟨kp, wc, sk, m1, m2⟩ := ivD_th hD
  unfold tgC at hc
  obtain ⟨y0, y1, y2, y3, y4, y5, y6, y7, y8, y9⟩ := id hY
  refine ⟨t 2, mH X K 0 (nI l) ep tp (nwO nn a t) kp wc sk, fun Q => ?_, fun Q => ?_, ⟨Kb, Ks, K, l, ep, T, tp, b, nm, s, a, t, g, q, co, ro, nk, nc, nn, cnt, rs, re, m2 0 kp wc sk⟩, rfl⟩
  · rw [e_T_hour]
    simp only [s_T_hour_0, s_T_hour_1, s_T_hour_4, s_T_hour_7, xf_of hc, xc_of hc, xll_8, xlg_8_0, xlg_8_1, xlg_8_2, xlg_8_3, xlg_8_4, xlg_8_5, xlg_8_6, xf_of y0, xc_of y0, xIl_of y1, xIf_of y1, xIl_of y2, xIf_of y2, xIl_of y3, xIf_of y3, xIl_of y4, xIf_of y4, xIl_of y5, xIf_of y5, xIl_of y6, xIf_of y6, xIl_of y7, xIf_of y7, xIl_of y8, xIf_of y8, xIl_of y9, xIf_of y9, xll_0, xlg_0_0, xlg_0_1, xlg_0_2, xlg_0_3, xlg_0_4, xlg_0_5, xlg_0_6, xlg_0_7, xlg_0_8, xlg_0_9, xlg_0_10, xlg_0_11, xlg_0_12, xlg_0_13, not_false_eq_true, Nat.reduceLT, Nat.reduceAdd, true_and, and_true, if_true, if_false, ite_true, ite_false, xnb_0, xnb_1, xnb_b, xk_v, xk_n]
  · refine (congrArg (fun Z => xcall E xprog (d + 2) 195 [.ref 63] Z Q) m1).trans ?_
    show xcall E xprog (d + 2) 195 [.ref 63] (mH X K th (nI l) ep tp (nwO nn a t) kp wc sk) Q = _
    rw [e_M_hour]
    simp only [s_M_hour_0, s_M_hour_1, s_M_hour_2, s_M_hour_5, s_M_hour_6, s_M_hour_7, s_M_hour_10, mF, mC, ml_64, mf_64, mw_63, mw_64, ml_74, mf_74, mw_74, ml_75, mf_75, mw_75, ml_76, mf_76, mw_76, ml_77, mf_77, mw_77, xll_11, xlg_11_0, xlg_11_1, xlg_11_2, xlg_11_3, xlg_11_4, xlg_11_5, xlg_11_6, xlg_11_7, xlg_11_8, xls_11_0, xls_11_1, xls_11_2, xls_11_3, xls_11_4, xls_11_5, xls_11_6, xls_11_7, xls_11_8, nF hM hK, nC hM hK, nl_0 hM hK, nl_1 hM hK, nl_2 hM hK, nl_3 hM hK, nl_4 hM hK, nl_5 hM hK, nl_6 hM hK, nl_7 hM hK, nf_0 hM hK, nf_1 hM hK, nf_2 hM hK, nf_3 hM hK, nf_4 hM hK, nf_5 hM hK, nf_6 hM hK, nf_7 hM hK, xll_9, xlg_9_0, xlg_9_1, xlg_9_2, xlg_9_3, xlg_9_4, xlg_9_5, xlg_9_6, xlg_9_7, xlg_9_8, xlg_9_9, xlg_9_10, xlg_9_11, xlg_9_12, xlg_9_13, not_false_eq_true, Nat.reduceLT, Nat.reduceAdd, true_and, and_true, if_true, if_false, ite_true, ite_false, xnb_0, xnb_1, xnb_b, xk_v, xk_n, e_M_told, s_M_told_0, s_M_told_1, s_M_told_2, s_M_told_5, s_M_told_6, e0, e1, e2, e4, show vp_in (0 : Int32) 51 = True from nvp (i := 0) (by omega) (by omega), show vp_in (1 : Int32) 51 = True from nvp (i := 1) (by omega) (by omega), show vp_in (2 : Int32) 51 = True from nvp (i := 2) (by omega) (by omega), show (0 : Int32).toNatClampNeg = 0 from rfl, show (1 : Int32).toNatClampNeg = 1 from by decide, show (2 : Int32).toNatClampNeg = 2 from by decide, nw_0, nw_1, nw_2]
theorem st_errorAt (hI : IV n X) : ∃ (v : Int32) (X2 : xH), (∀ Q, xcall E xprog (d + 2) 72 [.ref 0] X Q = Q (.inl (some (.int v)), X)) ∧ (∀ Q, xcall E xprog (d + 2) 157 [.ref 63] X Q = Q (.inl (some (.int v)), X2)) ∧ IVk n 0 X2 ∧ X2.2 = X.2 := by
  obtain ⟨Kb, Ks, K, l, ep, th, T, tp, b, nm, s, a, t, g, q, co, ro, nk, nc, nn, cnt, rs, re, hD⟩ := hI
  obtain ⟨hc, _, _, hB, _, hY, _, _⟩ := id hD.1
  have e0 : q 0 = s 0 := hD.2.2.2.2.1.1.1
  have e1 : q 1 = s 1 := hD.2.2.2.2.1.1.2.1
  have e2 : q 2 = s 2 := hD.2.2.2.2.1.1.2.2.1.trans hD.2.2.2.2.1.2.2.1.1.symm
  have e4 : q 4 = s 4 := hD.2.2.2.2.1.2.1.1.trans hD.2.2.2.2.1.2.2.1.2.2.2.2.1.symm
  have hM := hD.2.1.2.1
  have hK := hD.2.1.2.2.1
  obtain ⟨kp, wc, sk, m1, m2⟩ := ivD_th hD
  unfold tgC at hc
  refine ⟨ep, mH X K 0 (nI l) ep tp (nwO nn a t) kp wc sk, fun Q => ?_, fun Q => ?_, ⟨Kb, Ks, K, l, ep, T, tp, b, nm, s, a, t, g, q, co, ro, nk, nc, nn, cnt, rs, re, m2 0 kp wc sk⟩, rfl⟩
  · rw [e_T_errorAt]
    simp only [s_T_errorAt_0, s_T_errorAt_1, s_T_errorAt_4, xf_of hc, xc_of hc, xll_8, xlg_8_0, xlg_8_1, xlg_8_2, xlg_8_3, xlg_8_4, xlg_8_5, xlg_8_6, not_false_eq_true, Nat.reduceLT, Nat.reduceAdd, true_and, and_true, if_true, if_false, ite_true, ite_false, xnb_0, xnb_1, xnb_b, xk_v, xk_n]
  · refine (congrArg (fun Z => xcall E xprog (d + 2) 157 [.ref 63] Z Q) m1).trans ?_
    show xcall E xprog (d + 2) 157 [.ref 63] (mH X K th (nI l) ep tp (nwO nn a t) kp wc sk) Q = _
    rw [e_M_errorAt]
    simp only [s_M_errorAt_0, s_M_errorAt_1, s_M_errorAt_2, s_M_errorAt_5, s_M_errorAt_8, mF, mC, ml_64, mf_64, mw_63, mw_64, ml_74, mf_74, mw_74, ml_75, mf_75, mw_75, ml_76, mf_76, mw_76, ml_77, mf_77, mw_77, xll_11, xlg_11_0, xlg_11_1, xlg_11_2, xlg_11_3, xlg_11_4, xlg_11_5, xlg_11_6, xlg_11_7, xlg_11_8, xls_11_0, xls_11_1, xls_11_2, xls_11_3, xls_11_4, xls_11_5, xls_11_6, xls_11_7, xls_11_8, nF hM hK, nC hM hK, nl_0 hM hK, nl_1 hM hK, nl_2 hM hK, nl_3 hM hK, nl_4 hM hK, nl_5 hM hK, nl_6 hM hK, nl_7 hM hK, nf_0 hM hK, nf_1 hM hK, nf_2 hM hK, nf_3 hM hK, nf_4 hM hK, nf_5 hM hK, nf_6 hM hK, nf_7 hM hK, xll_9, xlg_9_0, xlg_9_1, xlg_9_2, xlg_9_3, xlg_9_4, xlg_9_5, xlg_9_6, xlg_9_7, xlg_9_8, xlg_9_9, xlg_9_10, xlg_9_11, xlg_9_12, xlg_9_13, not_false_eq_true, Nat.reduceLT, Nat.reduceAdd, true_and, and_true, if_true, if_false, ite_true, ite_false, xnb_0, xnb_1, xnb_b, xk_v, xk_n, e_M_told, s_M_told_0, s_M_told_1, s_M_told_2, s_M_told_5, s_M_told_6, e0, e1, e2, e4]
end PLAIN
