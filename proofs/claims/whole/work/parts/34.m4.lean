/-! ===== the model: measuring, joining ===== -/
section MMEAS
variable {E : xE} {d : Nat} {Q : xR → Prop} {H : xH} {K : Nat} {g : Nat → Nat → Int32} {q : Nat → Int32} {th sz ea : Int32} {tp kp wc sk : Nat → Int32} {b a : Nat → Nat → Int32} {s t : Nat → Int32}
theorem f_M_speed (nn c : Nat) (hc : c < nn) (h6 : nn ≤ 6) :
    xcall E xprog (d + 2) 174 [.ref 63, .int (nI c)] (mH H K th sz ea tp (nwO nn a t) kp wc sk) Q = Q (.inl (some (.int (spdC a t c))), mH H K th sz ea tp (nwO nn a t) kp wc sk) := by
  rw [e_M_speed]
  simp only [s_M_speed_0, s_M_speed_2, s_M_speed_3, s_M_speed_4, s_M_speed_5, s_M_speed_8, s_M_speed_9, s_M_speed_10, s_M_speed_11, s_M_speed_12, s_M_speed_13, s_M_speed_16, s_M_speed_17, s_M_speed_18, s_M_speed_21, s_M_speed_22, s_M_speed_23, s_M_speed_24, s_M_speed_27, s_M_speed_28, mF, mC, ml_64, mf_64, mw_63, mw_64, ml_74, mf_74, mw_74, ml_75, mf_75, mw_75, ml_76, mf_76, mw_76, ml_77, mf_77, mw_77, xll_11, xlg_11_0, xlg_11_1, xlg_11_2, xlg_11_3, xlg_11_4, xlg_11_5, xlg_11_6, xlg_11_7, xlg_11_8, xls_11_0, xls_11_1, xls_11_2, xls_11_3, xls_11_4, xls_11_5, xls_11_6, xls_11_7, xls_11_8, not_false_eq_true, Nat.reduceLT, Nat.reduceAdd, true_and, and_true, if_true, if_false, ite_true, ite_false, xnb_0, xnb_1, xnb_b, xk_v, xk_n, c_cl_2 c (show c < 6 by omega), nw_c2 hc, kv_2, kc_2, nw_2, k5_0, k2_0, spdC]
  by_cases p : t 1 = 0
  · rw [if_pos p, if_pos p]
  · rw [if_neg p, if_neg p]
theorem f_M_isAtHome (hM : kM H K g q) (hK : mK K) (nn : Nat) (rs re : Nat → Nat) (hC : kRc b s g q nn rs re) (c : Nat) (hc : c < nn) :
    xcall E xprog (d + 2) 175 [.ref 63, .int (nI c)] (mH H K th sz ea tp (nwO nn a t) kp wc sk) Q = Q (.inl (some (.int (xb (a 3 c = b 7 c ∧ a 4 c = b 8 c)))), mH H K th sz ea tp (nwO nn a t) kp wc sk) := by
  obtain ⟨k1, k2, k3⟩ := id hC
  have kc := k3 c hc
  rw [e_M_isAtHome]
  simp only [s_M_isAtHome_0, s_M_isAtHome_1, s_M_isAtHome_2, s_M_isAtHome_3, s_M_isAtHome_6, s_M_isAtHome_7, s_M_isAtHome_10, s_M_isAtHome_13, s_M_isAtHome_14, s_M_isAtHome_15, s_M_isAtHome_18, s_M_isAtHome_19, s_M_isAtHome_20, s_M_isAtHome_21, s_M_isAtHome_24, s_M_isAtHome_25, s_M_isAtHome_28, s_M_isAtHome_31, s_M_isAtHome_32, s_M_isAtHome_33, s_M_isAtHome_36, s_M_isAtHome_37, s_M_isAtHome_40, s_M_isAtHome_41, mF, mC, ml_64, mf_64, mw_63, mw_64, ml_74, mf_74, mw_74, ml_75, mf_75, mw_75, ml_76, mf_76, mw_76, ml_77, mf_77, mw_77, xll_11, xlg_11_0, xlg_11_1, xlg_11_2, xlg_11_3, xlg_11_4, xlg_11_5, xlg_11_6, xlg_11_7, xlg_11_8, xls_11_0, xls_11_1, xls_11_2, xls_11_3, xls_11_4, xls_11_5, xls_11_6, xls_11_7, xls_11_8, nF hM hK, nC hM hK, nl_0 hM hK, nl_1 hM hK, nl_2 hM hK, nl_3 hM hK, nl_4 hM hK, nl_5 hM hK, nl_6 hM hK, nl_7 hM hK, nf_0 hM hK, nf_1 hM hK, nf_2 hM hK, nf_3 hM hK, nf_4 hM hK, nf_5 hM hK, nf_6 hM hK, nf_7 hM hK, xll_9, xlg_9_0, xlg_9_1, xlg_9_2, xlg_9_3, xlg_9_4, xlg_9_5, xlg_9_6, xlg_9_7, xlg_9_8, xlg_9_9, xlg_9_10, xlg_9_11, xlg_9_12, xlg_9_13, not_false_eq_true, Nat.reduceLT, Nat.reduceAdd, true_and, and_true, if_true, if_false, ite_true, ite_false, xnb_0, xnb_1, xnb_b, xk_v, xk_n, c_cl_0 c (show c < 6 by omega), c_cl_1 c (show c < 6 by omega), nw_c0 hc, nw_c1 hc, nvp (show c < 7 by omega) (by omega), ncl (show c < 2147483648 by omega), kc.1, kc.2.1]
  repeat' split
  all_goals simp_all [xb]
end MMEAS
