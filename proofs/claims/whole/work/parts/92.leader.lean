/-! ===== who leads ===== -/
section LEADER
variable {E : xE} {d D n n' Ln Mn : Nat} {Q : xR → Prop} {X X1 H : xH} {Kb Ks Kt K l : Nat} {ep th k v : Int32} {La Ma : List Value} {T : Nat → Nat} {tp : Nat → Int32} {b : Nat → Nat → Int32} {nm : Nat → Int64} {s : Nat → Int32} {a a' : Nat → Nat → Int32} {t t' : Nat → Int32} {g : Nat → Nat → Int32} {q : Nat → Int32} {co ro nk nc nn cnt : Nat} {rs re : Nat → Nat} {nw kp wc sk ms : Nat → Int32} {sz ea h : Int32} {W : Int32 → Int64 → Prop}
/-- the leader among f and the m clippers from i on -/
def ldR (a : Nat → Nat → Int32) : Nat → Nat → Nat → Nat
  | _, 0, f => f
  | i, m + 1, f => ldR a (i + 1) m (if a 7 f < a 7 i ∨ (a 7 i = a 7 f ∧ a 5 f < a 5 i) then i else f)
theorem l_T_leader (hc : X.1 0 = tgC Kb Ks ep) (hB : kB X Kb b nm s) (hY : kY X 43 Kb a t) (hs : s 4 = nI nn) (h6 : nn ≤ 6) : ∀ m i f, i + m = nn → f < nn →
    xr E (d + 1) m_T_leader Q (25, [some (.ref 0), some (.int (nI f)), some (.int (nI i))], [], X) = Q (.inl (some (.int (nI (ldR a i m f)))), X) := by
  have y0 := hY.1
  have b0 := hB.1
  unfold tgC at hc
  intro m
  induction m with
  | zero =>
    intro i f hi hf
    rw [s_T_leader_25]
    simp only [s_T_leader_26, s_T_leader_27, s_T_leader_30, s_T_leader_33, s_T_leader_36, s_T_leader_37, s_T_leader_40, s_T_leader_41, s_T_leader_42, s_T_leader_45, s_T_leader_48, s_T_leader_49, s_T_leader_50, s_T_leader_53, s_T_leader_56, s_T_leader_57, xc_of hc, xf_of hc, xll_8, xlg_8_0, xlg_8_1, xlg_8_2, xlg_8_3, xlg_8_4, xlg_8_5, xlg_8_6, xf_of b0, xll_1, xlg_1_0, xlg_1_1, xlg_1_2, xlg_1_3, xlg_1_4, xlg_1_5, xlg_1_6, xlg_1_7, xlg_1_8, xlg_1_9, xlg_1_10, xlg_1_11, xlg_1_12, xlg_1_13, xlg_1_14, xlg_1_15, xlg_1_16, hs, not_false_eq_true, Nat.reduceLT, Nat.reduceAdd, true_and, and_true, if_true, if_false, ite_true, ite_false, xnb_0, xnb_1, xnb_b, xk_v, xk_n, nge (show nn ≤ i by omega) (by omega), ldR]
  | succ m ih =>
    intro i f hi hf
    have z := fun (Q : xR → Prop) => f_Bay_isAhead (E := E) (d := d) (Q := Q) hY i f (by omega) (by omega)
    rw [s_T_leader_25]
    by_cases p : a 7 f < a 7 i ∨ (a 7 i = a 7 f ∧ a 5 f < a 5 i)
    · rw [xb_t p] at z
      simp only [s_T_leader_26, s_T_leader_27, s_T_leader_30, s_T_leader_33, s_T_leader_36, s_T_leader_37, s_T_leader_40, s_T_leader_41, s_T_leader_42, s_T_leader_45, s_T_leader_48, s_T_leader_49, s_T_leader_50, s_T_leader_53, s_T_leader_56, s_T_leader_57, xc_of hc, xf_of hc, xll_8, xlg_8_0, xlg_8_1, xlg_8_2, xlg_8_3, xlg_8_4, xlg_8_5, xlg_8_6, xf_of b0, xc_of y0, xll_1, xlg_1_0, xlg_1_1, xlg_1_2, xlg_1_3, xlg_1_4, xlg_1_5, xlg_1_6, xlg_1_7, xlg_1_8, xlg_1_9, xlg_1_10, xlg_1_11, xlg_1_12, xlg_1_13, xlg_1_14, xlg_1_15, xlg_1_16, hs, not_false_eq_true, Nat.reduceLT, Nat.reduceAdd, true_and, and_true, if_true, if_false, ite_true, ite_false, xnb_0, xnb_1, xnb_b, xk_v, xk_n, nlt (show i < nn by omega) (by omega), z, ne_1, nI_1, ih (i + 1) _ (by omega) (show i < nn by omega), ldR, if_pos p]
    · rw [xb_f p] at z
      simp only [s_T_leader_26, s_T_leader_27, s_T_leader_30, s_T_leader_33, s_T_leader_36, s_T_leader_37, s_T_leader_40, s_T_leader_41, s_T_leader_42, s_T_leader_45, s_T_leader_48, s_T_leader_49, s_T_leader_50, s_T_leader_53, s_T_leader_56, s_T_leader_57, xc_of hc, xf_of hc, xll_8, xlg_8_0, xlg_8_1, xlg_8_2, xlg_8_3, xlg_8_4, xlg_8_5, xlg_8_6, xf_of b0, xc_of y0, xll_1, xlg_1_0, xlg_1_1, xlg_1_2, xlg_1_3, xlg_1_4, xlg_1_5, xlg_1_6, xlg_1_7, xlg_1_8, xlg_1_9, xlg_1_10, xlg_1_11, xlg_1_12, xlg_1_13, xlg_1_14, xlg_1_15, xlg_1_16, hs, not_false_eq_true, Nat.reduceLT, Nat.reduceAdd, true_and, and_true, if_true, if_false, ite_true, ite_false, xnb_0, xnb_1, xnb_b, xk_v, xk_n, nlt (show i < nn by omega) (by omega), z, nI_1, ih (i + 1) _ (by omega) hf, ldR, if_neg p]
theorem c_T_leader_o (hc : X.1 0 = tgC Kb Ks ep) (hB : kB X Kb b nm s) (hs : s 4 = nI 0) : xcall E xprog (d + 2) 97 [.ref 0] X Q = Q (.inr 12, xnew X (.inr (12, [])) 6) := by
  have b0 := hB.1
  unfold tgC at hc
  rw [e_T_leader]
  simp only [s_T_leader_0, s_T_leader_1, s_T_leader_4, s_T_leader_7, s_T_leader_8, s_T_leader_11, xc_of hc, xf_of hc, xll_8, xlg_8_0, xlg_8_1, xlg_8_2, xlg_8_3, xlg_8_4, xlg_8_5, xlg_8_6, xf_of b0, xll_1, xlg_1_0, xlg_1_1, xlg_1_2, xlg_1_3, xlg_1_4, xlg_1_5, xlg_1_6, xlg_1_7, xlg_1_8, xlg_1_9, xlg_1_10, xlg_1_11, xlg_1_12, xlg_1_13, xlg_1_14, xlg_1_15, xlg_1_16, hs, not_false_eq_true, Nat.reduceLT, Nat.reduceAdd, true_and, and_true, if_true, if_false, ite_true, ite_false, xnb_0, xnb_1, xnb_b, xk_v, xk_n, show (nI 0 < 1) = True from eq_true (by decide), t_T_leader_20]
theorem c_T_leader_i (hc : X.1 0 = tgC Kb Ks ep) (hB : kB X Kb b nm s) (hY : kY X 43 Kb a t) (hs : s 4 = nI nn) (h6 : nn ≤ 6) (h0 : 0 < nn) : xcall E xprog (d + 2) 97 [.ref 0] X Q = Q (.inl (some (.int (nI (ldR a 1 (nn - 1) 0)))), X) := by
  have b0 := hB.1
  have z := fun (Q : xR → Prop) => l_T_leader (E := E) (d := d) (Q := Q) hc hB hY hs h6 (nn - 1) 1 0 (by omega) h0
  rw [show nI 0 = (0 : Int32) from rfl, show nI 1 = (1 : Int32) from rfl] at z
  unfold tgC at hc
  rw [e_T_leader]
  simp only [s_T_leader_0, s_T_leader_1, s_T_leader_4, s_T_leader_7, s_T_leader_8, s_T_leader_11, s_T_leader_21, s_T_leader_22, s_T_leader_23, s_T_leader_24, xc_of hc, xf_of hc, xll_8, xlg_8_0, xlg_8_1, xlg_8_2, xlg_8_3, xlg_8_4, xlg_8_5, xlg_8_6, xf_of b0, xll_1, xlg_1_0, xlg_1_1, xlg_1_2, xlg_1_3, xlg_1_4, xlg_1_5, xlg_1_6, xlg_1_7, xlg_1_8, xlg_1_9, xlg_1_10, xlg_1_11, xlg_1_12, xlg_1_13, xlg_1_14, xlg_1_15, xlg_1_16, hs, not_false_eq_true, Nat.reduceLT, Nat.reduceAdd, true_and, and_true, if_true, if_false, ite_true, ite_false, xnb_0, xnb_1, xnb_b, xk_v, xk_n, show (nI nn < 1) = False from eq_false (by rw [nI_l1 nn (by omega)]; omega), z]
theorem pt_sub {x y : Nat} (hx : x < 1000000000) (hy : y < 1000000000) : ((0 < nI x - nI y) = (nI y < nI x)) ∧ ((nI x - nI y = 0) = (nI x = nI y)) := by
  have e1 := nI_i (x := x) (by omega)
  have e2 := nI_i (x := y) (by omega)
  have e3 : (nI x - nI y).toInt = x - y := by rw [ti_sub (by omega) (by omega), e1, e2]
  have e0 : (0 : Int32).toInt = 0 := by decide
  refine ⟨propext ?_, propext ?_⟩
  · rw [Int32.lt_iff_toInt_lt, Int32.lt_iff_toInt_lt, e0, e3, e1, e2]
    omega
  · rw [← Int32.toInt_inj, ← Int32.toInt_inj, e0, e3, e1, e2]
    omega
theorem pt_of (hS : kSt a t co ro nk nn n) (hn : n < 1000000) {c : Nat} (hc : c < nn) : ∃ p, p < 1000000000 ∧ a 7 c = nI p := by
  obtain ⟨x, y, z, p, h1, h2, h3, h4, h5, h6, h7, h8⟩ := hS.2.1 c hc
  exact ⟨p, by omega, h8⟩
theorem l_M_leader (hM : kM H K g q) (hK : mK K) (hq : q 4 = nI nn) (h6 : nn ≤ 6) (hS : kSt a t co ro nk nn n) (hn : n < 1000000) : ∀ m i f (j : Option Value), i + m = nn → f < nn →
    xr E (d + 1) m_M_leader Q (25, [some (.ref 63), some (.int (nI f)), some (.int (nI i)), j], [], mH H K th sz ea tp (nwO nn a t) kp wc sk) = Q (.inl (some (.int (nI (ldR a i m f)))), mH H K th sz ea tp (nwO nn a t) kp wc sk) := by
  intro m
  induction m with
  | zero =>
    intro i f j hi hf
    rw [s_M_leader_25]
    simp only [s_M_leader_26, s_M_leader_27, s_M_leader_30, s_M_leader_33, s_M_leader_36, s_M_leader_81, s_M_leader_82, mF, mC, ml_64, mf_64, mw_63, mw_64, ml_74, mf_74, mw_74, ml_75, mf_75, mw_75, ml_76, mf_76, mw_76, ml_77, mf_77, mw_77, xll_11, xlg_11_0, xlg_11_1, xlg_11_2, xlg_11_3, xlg_11_4, xlg_11_5, xlg_11_6, xlg_11_7, xlg_11_8, xls_11_0, xls_11_1, xls_11_2, xls_11_3, xls_11_4, xls_11_5, xls_11_6, xls_11_7, xls_11_8, nF hM hK, nC hM hK, nl_0 hM hK, nl_1 hM hK, nl_2 hM hK, nl_3 hM hK, nl_4 hM hK, nl_5 hM hK, nl_6 hM hK, nl_7 hM hK, nf_0 hM hK, nf_1 hM hK, nf_2 hM hK, nf_3 hM hK, nf_4 hM hK, nf_5 hM hK, nf_6 hM hK, nf_7 hM hK, xll_9, xlg_9_0, xlg_9_1, xlg_9_2, xlg_9_3, xlg_9_4, xlg_9_5, xlg_9_6, xlg_9_7, xlg_9_8, xlg_9_9, xlg_9_10, xlg_9_11, xlg_9_12, xlg_9_13, not_false_eq_true, Nat.reduceLT, Nat.reduceAdd, true_and, and_true, if_true, if_false, ite_true, ite_false, xnb_0, xnb_1, xnb_b, xk_v, xk_n, hq, nge (show nn ≤ i by omega) (by omega), ldR]
  | succ m ih =>
    intro i f j hi hf
    obtain ⟨u, u1, u2⟩ := pt_of hS hn (show i < nn by omega)
    obtain ⟨w, w1, w2⟩ := pt_of hS hn hf
    have z := pt_sub u1 w1
    rw [← u2, ← w2] at z
    rw [s_M_leader_25]
    by_cases p : a 7 f < a 7 i
    · simp only [s_M_leader_26, s_M_leader_27, s_M_leader_30, s_M_leader_33, s_M_leader_36, s_M_leader_37, s_M_leader_38, s_M_leader_39, s_M_leader_42, s_M_leader_43, s_M_leader_44, s_M_leader_45, s_M_leader_48, s_M_leader_49, s_M_leader_50, s_M_leader_51, s_M_leader_54, s_M_leader_55, s_M_leader_58, s_M_leader_59, s_M_leader_60, s_M_leader_61, s_M_leader_64, s_M_leader_65, s_M_leader_66, s_M_leader_67, s_M_leader_70, s_M_leader_73, s_M_leader_74, s_M_leader_75, s_M_leader_78, mF, mC, ml_64, mf_64, mw_63, mw_64, ml_74, mf_74, mw_74, ml_75, mf_75, mw_75, ml_76, mf_76, mw_76, ml_77, mf_77, mw_77, xll_11, xlg_11_0, xlg_11_1, xlg_11_2, xlg_11_3, xlg_11_4, xlg_11_5, xlg_11_6, xlg_11_7, xlg_11_8, xls_11_0, xls_11_1, xls_11_2, xls_11_3, xls_11_4, xls_11_5, xls_11_6, xls_11_7, xls_11_8, nF hM hK, nC hM hK, nl_0 hM hK, nl_1 hM hK, nl_2 hM hK, nl_3 hM hK, nl_4 hM hK, nl_5 hM hK, nl_6 hM hK, nl_7 hM hK, nf_0 hM hK, nf_1 hM hK, nf_2 hM hK, nf_3 hM hK, nf_4 hM hK, nf_5 hM hK, nf_6 hM hK, nf_7 hM hK, xll_9, xlg_9_0, xlg_9_1, xlg_9_2, xlg_9_3, xlg_9_4, xlg_9_5, xlg_9_6, xlg_9_7, xlg_9_8, xlg_9_9, xlg_9_10, xlg_9_11, xlg_9_12, xlg_9_13, not_false_eq_true, Nat.reduceLT, Nat.reduceAdd, true_and, and_true, if_true, if_false, ite_true, ite_false, xnb_0, xnb_1, xnb_b, xk_v, xk_n, hq, nlt (show i < nn by omega) (by omega), c_cl_4 i (show i < 6 by omega), c_cl_4 f (show f < 6 by omega), c_cl_2 i (show i < 6 by omega), c_cl_2 f (show f < 6 by omega), nw_c4 (show i < nn by omega), nw_c4 hf, nw_c2 (show i < nn by omega), nw_c2 hf, z.1, eq_true p, nI_1, ih (i + 1) _ _ (by omega) (show i < nn by omega), ldR, true_or]
    · by_cases r : a 7 i = a 7 f
      · by_cases v : a 5 f < a 5 i
        · simp only [s_M_leader_26, s_M_leader_27, s_M_leader_30, s_M_leader_33, s_M_leader_36, s_M_leader_37, s_M_leader_38, s_M_leader_39, s_M_leader_42, s_M_leader_43, s_M_leader_44, s_M_leader_45, s_M_leader_48, s_M_leader_49, s_M_leader_50, s_M_leader_51, s_M_leader_54, s_M_leader_55, s_M_leader_58, s_M_leader_59, s_M_leader_60, s_M_leader_61, s_M_leader_64, s_M_leader_65, s_M_leader_66, s_M_leader_67, s_M_leader_70, s_M_leader_73, s_M_leader_74, s_M_leader_75, s_M_leader_78, mF, mC, ml_64, mf_64, mw_63, mw_64, ml_74, mf_74, mw_74, ml_75, mf_75, mw_75, ml_76, mf_76, mw_76, ml_77, mf_77, mw_77, xll_11, xlg_11_0, xlg_11_1, xlg_11_2, xlg_11_3, xlg_11_4, xlg_11_5, xlg_11_6, xlg_11_7, xlg_11_8, xls_11_0, xls_11_1, xls_11_2, xls_11_3, xls_11_4, xls_11_5, xls_11_6, xls_11_7, xls_11_8, nF hM hK, nC hM hK, nl_0 hM hK, nl_1 hM hK, nl_2 hM hK, nl_3 hM hK, nl_4 hM hK, nl_5 hM hK, nl_6 hM hK, nl_7 hM hK, nf_0 hM hK, nf_1 hM hK, nf_2 hM hK, nf_3 hM hK, nf_4 hM hK, nf_5 hM hK, nf_6 hM hK, nf_7 hM hK, xll_9, xlg_9_0, xlg_9_1, xlg_9_2, xlg_9_3, xlg_9_4, xlg_9_5, xlg_9_6, xlg_9_7, xlg_9_8, xlg_9_9, xlg_9_10, xlg_9_11, xlg_9_12, xlg_9_13, not_false_eq_true, Nat.reduceLT, Nat.reduceAdd, true_and, and_true, if_true, if_false, ite_true, ite_false, xnb_0, xnb_1, xnb_b, xk_v, xk_n, hq, nlt (show i < nn by omega) (by omega), c_cl_4 i (show i < 6 by omega), c_cl_4 f (show f < 6 by omega), c_cl_2 i (show i < 6 by omega), c_cl_2 f (show f < 6 by omega), nw_c4 (show i < nn by omega), nw_c4 hf, nw_c2 (show i < nn by omega), nw_c2 hf, z.1, z.2, eq_false p, eq_true r, eq_true v, nI_1, ih (i + 1) _ _ (by omega) (show i < nn by omega), ldR, or_true]
        · simp only [s_M_leader_26, s_M_leader_27, s_M_leader_30, s_M_leader_33, s_M_leader_36, s_M_leader_37, s_M_leader_38, s_M_leader_39, s_M_leader_42, s_M_leader_43, s_M_leader_44, s_M_leader_45, s_M_leader_48, s_M_leader_49, s_M_leader_50, s_M_leader_51, s_M_leader_54, s_M_leader_55, s_M_leader_58, s_M_leader_59, s_M_leader_60, s_M_leader_61, s_M_leader_64, s_M_leader_65, s_M_leader_66, s_M_leader_67, s_M_leader_70, s_M_leader_73, s_M_leader_74, s_M_leader_75, s_M_leader_78, mF, mC, ml_64, mf_64, mw_63, mw_64, ml_74, mf_74, mw_74, ml_75, mf_75, mw_75, ml_76, mf_76, mw_76, ml_77, mf_77, mw_77, xll_11, xlg_11_0, xlg_11_1, xlg_11_2, xlg_11_3, xlg_11_4, xlg_11_5, xlg_11_6, xlg_11_7, xlg_11_8, xls_11_0, xls_11_1, xls_11_2, xls_11_3, xls_11_4, xls_11_5, xls_11_6, xls_11_7, xls_11_8, nF hM hK, nC hM hK, nl_0 hM hK, nl_1 hM hK, nl_2 hM hK, nl_3 hM hK, nl_4 hM hK, nl_5 hM hK, nl_6 hM hK, nl_7 hM hK, nf_0 hM hK, nf_1 hM hK, nf_2 hM hK, nf_3 hM hK, nf_4 hM hK, nf_5 hM hK, nf_6 hM hK, nf_7 hM hK, xll_9, xlg_9_0, xlg_9_1, xlg_9_2, xlg_9_3, xlg_9_4, xlg_9_5, xlg_9_6, xlg_9_7, xlg_9_8, xlg_9_9, xlg_9_10, xlg_9_11, xlg_9_12, xlg_9_13, not_false_eq_true, Nat.reduceLT, Nat.reduceAdd, true_and, and_true, if_true, if_false, ite_true, ite_false, xnb_0, xnb_1, xnb_b, xk_v, xk_n, hq, nlt (show i < nn by omega) (by omega), c_cl_4 i (show i < 6 by omega), c_cl_4 f (show f < 6 by omega), c_cl_2 i (show i < 6 by omega), c_cl_2 f (show f < 6 by omega), nw_c4 (show i < nn by omega), nw_c4 hf, nw_c2 (show i < nn by omega), nw_c2 hf, z.1, z.2, eq_false p, eq_true r, eq_false v, nI_1, ih (i + 1) _ _ (by omega) hf, ldR, or_false, and_false]
      · simp only [s_M_leader_26, s_M_leader_27, s_M_leader_30, s_M_leader_33, s_M_leader_36, s_M_leader_37, s_M_leader_38, s_M_leader_39, s_M_leader_42, s_M_leader_43, s_M_leader_44, s_M_leader_45, s_M_leader_48, s_M_leader_49, s_M_leader_50, s_M_leader_51, s_M_leader_54, s_M_leader_55, s_M_leader_58, s_M_leader_59, s_M_leader_60, s_M_leader_61, s_M_leader_64, s_M_leader_65, s_M_leader_66, s_M_leader_67, s_M_leader_70, s_M_leader_73, s_M_leader_74, s_M_leader_75, s_M_leader_78, mF, mC, ml_64, mf_64, mw_63, mw_64, ml_74, mf_74, mw_74, ml_75, mf_75, mw_75, ml_76, mf_76, mw_76, ml_77, mf_77, mw_77, xll_11, xlg_11_0, xlg_11_1, xlg_11_2, xlg_11_3, xlg_11_4, xlg_11_5, xlg_11_6, xlg_11_7, xlg_11_8, xls_11_0, xls_11_1, xls_11_2, xls_11_3, xls_11_4, xls_11_5, xls_11_6, xls_11_7, xls_11_8, nF hM hK, nC hM hK, nl_0 hM hK, nl_1 hM hK, nl_2 hM hK, nl_3 hM hK, nl_4 hM hK, nl_5 hM hK, nl_6 hM hK, nl_7 hM hK, nf_0 hM hK, nf_1 hM hK, nf_2 hM hK, nf_3 hM hK, nf_4 hM hK, nf_5 hM hK, nf_6 hM hK, nf_7 hM hK, xll_9, xlg_9_0, xlg_9_1, xlg_9_2, xlg_9_3, xlg_9_4, xlg_9_5, xlg_9_6, xlg_9_7, xlg_9_8, xlg_9_9, xlg_9_10, xlg_9_11, xlg_9_12, xlg_9_13, not_false_eq_true, Nat.reduceLT, Nat.reduceAdd, true_and, and_true, if_true, if_false, ite_true, ite_false, xnb_0, xnb_1, xnb_b, xk_v, xk_n, hq, nlt (show i < nn by omega) (by omega), c_cl_4 i (show i < 6 by omega), c_cl_4 f (show f < 6 by omega), c_cl_2 i (show i < 6 by omega), c_cl_2 f (show f < 6 by omega), nw_c4 (show i < nn by omega), nw_c4 hf, nw_c2 (show i < nn by omega), nw_c2 hf, z.1, z.2, eq_false p, eq_false r, nI_1, ih (i + 1) _ _ (by omega) hf, ldR, or_false, false_and]
theorem c_M_leader_o (hM : kM H K g q) (hK : mK K) (hq : q 4 = nI 0) : xcall E xprog (d + 2) 209 [.ref 63] (mH H K th sz ea tp nw kp wc sk) Q = Q (.inl (some (.int 0)), mH H K 1 sz ea tp nw kp wc sk) := by
  rw [e_M_leader]
  simp only [s_M_leader_0, s_M_leader_1, s_M_leader_2, s_M_leader_5, s_M_leader_6, s_M_leader_9, s_M_leader_12, s_M_leader_15, s_M_leader_16, s_M_leader_17, s_M_leader_20, mF, mC, ml_64, mf_64, mw_63, mw_64, ml_74, mf_74, mw_74, ml_75, mf_75, mw_75, ml_76, mf_76, mw_76, ml_77, mf_77, mw_77, xll_11, xlg_11_0, xlg_11_1, xlg_11_2, xlg_11_3, xlg_11_4, xlg_11_5, xlg_11_6, xlg_11_7, xlg_11_8, xls_11_0, xls_11_1, xls_11_2, xls_11_3, xls_11_4, xls_11_5, xls_11_6, xls_11_7, xls_11_8, nF hM hK, nC hM hK, nl_0 hM hK, nl_1 hM hK, nl_2 hM hK, nl_3 hM hK, nl_4 hM hK, nl_5 hM hK, nl_6 hM hK, nl_7 hM hK, nf_0 hM hK, nf_1 hM hK, nf_2 hM hK, nf_3 hM hK, nf_4 hM hK, nf_5 hM hK, nf_6 hM hK, nf_7 hM hK, xll_9, xlg_9_0, xlg_9_1, xlg_9_2, xlg_9_3, xlg_9_4, xlg_9_5, xlg_9_6, xlg_9_7, xlg_9_8, xlg_9_9, xlg_9_10, xlg_9_11, xlg_9_12, xlg_9_13, not_false_eq_true, Nat.reduceLT, Nat.reduceAdd, true_and, and_true, if_true, if_false, ite_true, ite_false, xnb_0, xnb_1, xnb_b, xk_v, xk_n, hq, show (nI 0 = 0) = True from eq_true rfl, e_M_fail, s_M_fail_0, s_M_fail_1, s_M_fail_2, s_M_fail_5, s_M_fail_6]
theorem c_M_leader_i (hM : kM H K g q) (hK : mK K) (hq : q 4 = nI nn) (h6 : nn ≤ 6) (h0 : 0 < nn) (hS : kSt a t co ro nk nn n) (hn : n < 1000000) : xcall E xprog (d + 2) 209 [.ref 63] (mH H K th sz ea tp (nwO nn a t) kp wc sk) Q = Q (.inl (some (.int (nI (ldR a 1 (nn - 1) 0)))), mH H K 0 sz ea tp (nwO nn a t) kp wc sk) := by
  have z := fun (Q : xR → Prop) => l_M_leader (E := E) (d := d) (Q := Q) (th := 0) (sz := sz) (ea := ea) (tp := tp) (kp := kp) (wc := wc) (sk := sk) hM hK hq h6 hS hn (nn - 1) 1 0 none (by omega) h0
  rw [show nI 0 = (0 : Int32) from rfl, show nI 1 = (1 : Int32) from rfl] at z
  rw [e_M_leader]
  simp only [s_M_leader_0, s_M_leader_1, s_M_leader_2, s_M_leader_5, s_M_leader_6, s_M_leader_9, s_M_leader_12, s_M_leader_15, s_M_leader_16, s_M_leader_17, s_M_leader_20, s_M_leader_21, s_M_leader_22, s_M_leader_23, s_M_leader_24, mF, mC, ml_64, mf_64, mw_63, mw_64, ml_74, mf_74, mw_74, ml_75, mf_75, mw_75, ml_76, mf_76, mw_76, ml_77, mf_77, mw_77, xll_11, xlg_11_0, xlg_11_1, xlg_11_2, xlg_11_3, xlg_11_4, xlg_11_5, xlg_11_6, xlg_11_7, xlg_11_8, xls_11_0, xls_11_1, xls_11_2, xls_11_3, xls_11_4, xls_11_5, xls_11_6, xls_11_7, xls_11_8, nF hM hK, nC hM hK, nl_0 hM hK, nl_1 hM hK, nl_2 hM hK, nl_3 hM hK, nl_4 hM hK, nl_5 hM hK, nl_6 hM hK, nl_7 hM hK, nf_0 hM hK, nf_1 hM hK, nf_2 hM hK, nf_3 hM hK, nf_4 hM hK, nf_5 hM hK, nf_6 hM hK, nf_7 hM hK, xll_9, xlg_9_0, xlg_9_1, xlg_9_2, xlg_9_3, xlg_9_4, xlg_9_5, xlg_9_6, xlg_9_7, xlg_9_8, xlg_9_9, xlg_9_10, xlg_9_11, xlg_9_12, xlg_9_13, not_false_eq_true, Nat.reduceLT, Nat.reduceAdd, true_and, and_true, if_true, if_false, ite_true, ite_false, xnb_0, xnb_1, xnb_b, xk_v, xk_n, hq, show (nI nn = 0) = False from eq_false (fun e => absurd (nI_inj (x := nn) (y := 0) (by omega) (by omega) e) (by omega)), z]
theorem st_leader (hI : IV n X) (hn : n < 1000000) : stP E (d + 3) 250 [.ref 0, .ref 78] 209 [.ref 63] n wI X := by
  obtain ⟨Kb, Ks, K, l, ep, th, T, tp, b, nm, s, a, t, g, q, co, ro, nk, nc, nn, cnt, rs, re, hD⟩ := hI
  obtain ⟨hc, hKK, _, hB, _, hY, _, _⟩ := id hD.1
  have h2 := hD.2.2.2.2.1
  have hS := hD.2.2.2.2.2
  have hW := h2.2.2.1
  have hs : s 4 = nI nn := hW.2.2.2.2.1
  have hq : q 4 = nI nn := h2.2.1.1
  have h6 : nn ≤ 6 := hW.2.2.2.2.2.1
  have x0 := x0_of hc
  by_cases h : nn = 0
  · subst h
    exact st_thr0 (c := .inr (12, [])) hD (k := 1) (by decide) (fun Q => x_leader_12 x0 (fun Q => c_T_leader_o (d := d) hc hB hs)) (fun H kp wc sk hM hK => ⟨kp, wc, sk, fun Q => c_M_leader_o (d := d + 1) hM hK hq⟩) (Nat.le_refl n)
  · exact st_ok hD hD.1 (fun m h1 h2 => rfl) rfl (fun f hf Q => w_leader x0 (fun Q => c_T_leader_i (d := d) hc hB hY hs h6 (by omega)) hf) (fun H kp wc f hM hK => ⟨kp, wc, f, fun Q => c_M_leader_i (d := d + 1) hM hK hq h6 (by omega) hS hn⟩) hS rfl
end LEADER
