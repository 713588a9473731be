/-! ===== the model's tokens ===== -/
section MTOK
variable {E : xE} {d : Nat} {Q : xR → Prop} {H : xH} {R : Nat} {a0 : Int32} {kn : Int32} {fr : Int32} {nu : Int32} {na : Int64} {tk : Int32} {fa : Int32} {fp : Int32} {wr : Int32} {cl : Int32} {g : Nat → Nat → Int32} {q : Nat → Int32} {ns : Nat → Int64} {K : Nat} {th sz ea : Int32} {tp nw kp wc sk : Nat → Int32}
variable {T : Nat → Nat} {l : Nat}
theorem sb_L : ∀ n, n < 256 → ((¬ sb n < 97 ∧ ¬ 122 < sb n) ↔ (97 ≤ n ∧ n ≤ 122)) := by decide +kernel
theorem sb_D : ∀ n, n < 256 → ((¬ sb n < 48 ∧ ¬ 57 < sb n) ↔ (48 ≤ n ∧ n ≤ 57)) := by decide +kernel
theorem sb_32 : ∀ n, n < 256 → ((sb n = 32) ↔ n = 32) ∧ ((sb n = 10) ↔ n = 10) := by decide +kernel
theorem f_MR_isLetter (hR : 77 < R) (hb : byt T tp) (hl : l ≤ 1600) (i : Nat) (hi : i < 2000) (hs : sz = nI l) : xcall E xprog (d + 1) 123 [.ref R, .int (nI i)] (nH (mH H K th sz ea tp nw kp wc sk) R a0 kn fr nu na tk fa fp wr cl g q ns) Q = Q (.inl (some (.int (xb (tL T l i)))), (nH (mH H K th sz ea tp nw kp wc sk) R a0 kn fr nu na tk fa fp wr cl g q ns)) := by
  subst hs
  have hT := (hb i).1
  rw [e_MR_isLetter]
  by_cases p : i < l
  · simp only [s_MR_isLetter_0, s_MR_isLetter_1, s_MR_isLetter_2, s_MR_isLetter_5, s_MR_isLetter_8, s_MR_isLetter_11, s_MR_isLetter_12, s_MR_isLetter_15, s_MR_isLetter_18, s_MR_isLetter_19, s_MR_isLetter_20, s_MR_isLetter_22, s_MR_isLetter_25, s_MR_isLetter_26, s_MR_isLetter_29, s_MR_isLetter_32, s_MR_isLetter_33, s_MR_isLetter_34, s_MR_isLetter_36, s_MR_isLetter_39, s_MR_isLetter_40, s_MR_isLetter_43, s_MR_isLetter_44, nQF_R, nQC_R, nQF_B, nQC_B, nQl_0, nQf_0, nQl_1, nQf_1, nQl_2, nQf_2, nQl_3, nQf_3, nQl_4, nQf_4, nQl_5, nQf_5, nQl_6, nQf_6, nQl_7, nQf_7, nQl_s, nQf_s, nw_R, nw_B, nw_g0, nw_g1, nw_g2, nw_g3, nw_g4, nw_g5, nw_g6, nw_g7, nw_ns, nQF_M hR, nQC_M hR, nQl_t hR, nQf_t hR, six_0, six_1, six_2, six_3, six_4, six_5, xll_9, xlg_9_0, xlg_9_1, xlg_9_2, xlg_9_3, xlg_9_4, xlg_9_5, xlg_9_6, xlg_9_7, xlg_9_8, xlg_9_9, xlg_9_10, xlg_9_11, xlg_9_12, xlg_9_13, xls_9_0, xls_9_1, xls_9_2, xls_9_3, xls_9_4, xls_9_5, xls_9_6, xls_9_7, xls_9_8, xls_9_9, xls_9_10, xls_9_11, xls_9_12, xls_9_13, xll_10, xlg_10_0, xlg_10_1, xlg_10_2, xlg_10_3, xlg_10_4, xlg_10_5, xlg_10_6, xlg_10_7, xlg_10_8, xlg_10_9, xlg_10_10, xlg_10_11, xlg_10_12, xls_10_0, xls_10_1, xls_10_2, xls_10_3, xls_10_4, xls_10_5, xls_10_6, xls_10_7, xls_10_8, xls_10_9, xls_10_10, xls_10_11, xls_10_12, xll_11, xlg_11_0, xlg_11_1, xlg_11_2, xlg_11_3, xlg_11_4, xlg_11_5, xlg_11_6, xlg_11_7, xlg_11_8, not_false_eq_true, Nat.reduceLT, Nat.reduceAdd, true_and, and_true, if_true, if_false, ite_true, ite_false, xnb_0, xnb_1, xnb_b, xk_v, xk_n, nlt p (by omega), nvp (show i < 1600 by omega) (by omega), ncl (show i < 2147483648 by omega), (hb i).2]
    have h := sb_L _ hT
    by_cases q1 : sb (T i) < 97
    · rw [if_pos q1, xb_f (fun w => (h.mpr w.2).1 q1)]
    · rw [if_neg q1]
      by_cases q2 : 122 < sb (T i)
      · rw [if_pos q2, xb_f (fun w => (h.mpr w.2).2 q2)]
      · rw [if_neg q2, xb_t ⟨p, h.mp ⟨q1, q2⟩⟩]
  · simp only [s_MR_isLetter_0, s_MR_isLetter_1, s_MR_isLetter_2, s_MR_isLetter_5, s_MR_isLetter_8, s_MR_isLetter_11, s_MR_isLetter_12, s_MR_isLetter_15, s_MR_isLetter_18, s_MR_isLetter_19, s_MR_isLetter_20, s_MR_isLetter_22, s_MR_isLetter_25, s_MR_isLetter_26, s_MR_isLetter_29, s_MR_isLetter_32, s_MR_isLetter_33, s_MR_isLetter_34, s_MR_isLetter_36, s_MR_isLetter_39, s_MR_isLetter_40, s_MR_isLetter_43, s_MR_isLetter_44, nQF_R, nQC_R, nQF_B, nQC_B, nQl_0, nQf_0, nQl_1, nQf_1, nQl_2, nQf_2, nQl_3, nQf_3, nQl_4, nQf_4, nQl_5, nQf_5, nQl_6, nQf_6, nQl_7, nQf_7, nQl_s, nQf_s, nw_R, nw_B, nw_g0, nw_g1, nw_g2, nw_g3, nw_g4, nw_g5, nw_g6, nw_g7, nw_ns, nQF_M hR, nQC_M hR, nQl_t hR, nQf_t hR, six_0, six_1, six_2, six_3, six_4, six_5, xll_9, xlg_9_0, xlg_9_1, xlg_9_2, xlg_9_3, xlg_9_4, xlg_9_5, xlg_9_6, xlg_9_7, xlg_9_8, xlg_9_9, xlg_9_10, xlg_9_11, xlg_9_12, xlg_9_13, xls_9_0, xls_9_1, xls_9_2, xls_9_3, xls_9_4, xls_9_5, xls_9_6, xls_9_7, xls_9_8, xls_9_9, xls_9_10, xls_9_11, xls_9_12, xls_9_13, xll_10, xlg_10_0, xlg_10_1, xlg_10_2, xlg_10_3, xlg_10_4, xlg_10_5, xlg_10_6, xlg_10_7, xlg_10_8, xlg_10_9, xlg_10_10, xlg_10_11, xlg_10_12, xls_10_0, xls_10_1, xls_10_2, xls_10_3, xls_10_4, xls_10_5, xls_10_6, xls_10_7, xls_10_8, xls_10_9, xls_10_10, xls_10_11, xls_10_12, xll_11, xlg_11_0, xlg_11_1, xlg_11_2, xlg_11_3, xlg_11_4, xlg_11_5, xlg_11_6, xlg_11_7, xlg_11_8, not_false_eq_true, Nat.reduceLT, Nat.reduceAdd, true_and, and_true, if_true, if_false, ite_true, ite_false, xnb_0, xnb_1, xnb_b, xk_v, xk_n, nge (show l ≤ i by omega) (by omega), xb_f (show ¬ tL T l i from fun w => p w.1)]
theorem f_MR_isDigit (hR : 77 < R) (hb : byt T tp) (hl : l ≤ 1600) (i : Nat) (hi : i < 2000) (hs : sz = nI l) : xcall E xprog (d + 1) 124 [.ref R, .int (nI i)] (nH (mH H K th sz ea tp nw kp wc sk) R a0 kn fr nu na tk fa fp wr cl g q ns) Q = Q (.inl (some (.int (xb (tD T l i)))), (nH (mH H K th sz ea tp nw kp wc sk) R a0 kn fr nu na tk fa fp wr cl g q ns)) := by
  subst hs
  have hT := (hb i).1
  rw [e_MR_isDigit]
  by_cases p : i < l
  · simp only [s_MR_isDigit_0, s_MR_isDigit_1, s_MR_isDigit_2, s_MR_isDigit_5, s_MR_isDigit_8, s_MR_isDigit_11, s_MR_isDigit_12, s_MR_isDigit_15, s_MR_isDigit_18, s_MR_isDigit_19, s_MR_isDigit_20, s_MR_isDigit_22, s_MR_isDigit_25, s_MR_isDigit_26, s_MR_isDigit_29, s_MR_isDigit_32, s_MR_isDigit_33, s_MR_isDigit_34, s_MR_isDigit_36, s_MR_isDigit_39, s_MR_isDigit_40, s_MR_isDigit_43, s_MR_isDigit_44, nQF_R, nQC_R, nQF_B, nQC_B, nQl_0, nQf_0, nQl_1, nQf_1, nQl_2, nQf_2, nQl_3, nQf_3, nQl_4, nQf_4, nQl_5, nQf_5, nQl_6, nQf_6, nQl_7, nQf_7, nQl_s, nQf_s, nw_R, nw_B, nw_g0, nw_g1, nw_g2, nw_g3, nw_g4, nw_g5, nw_g6, nw_g7, nw_ns, nQF_M hR, nQC_M hR, nQl_t hR, nQf_t hR, six_0, six_1, six_2, six_3, six_4, six_5, xll_9, xlg_9_0, xlg_9_1, xlg_9_2, xlg_9_3, xlg_9_4, xlg_9_5, xlg_9_6, xlg_9_7, xlg_9_8, xlg_9_9, xlg_9_10, xlg_9_11, xlg_9_12, xlg_9_13, xls_9_0, xls_9_1, xls_9_2, xls_9_3, xls_9_4, xls_9_5, xls_9_6, xls_9_7, xls_9_8, xls_9_9, xls_9_10, xls_9_11, xls_9_12, xls_9_13, xll_10, xlg_10_0, xlg_10_1, xlg_10_2, xlg_10_3, xlg_10_4, xlg_10_5, xlg_10_6, xlg_10_7, xlg_10_8, xlg_10_9, xlg_10_10, xlg_10_11, xlg_10_12, xls_10_0, xls_10_1, xls_10_2, xls_10_3, xls_10_4, xls_10_5, xls_10_6, xls_10_7, xls_10_8, xls_10_9, xls_10_10, xls_10_11, xls_10_12, xll_11, xlg_11_0, xlg_11_1, xlg_11_2, xlg_11_3, xlg_11_4, xlg_11_5, xlg_11_6, xlg_11_7, xlg_11_8, not_false_eq_true, Nat.reduceLT, Nat.reduceAdd, true_and, and_true, if_true, if_false, ite_true, ite_false, xnb_0, xnb_1, xnb_b, xk_v, xk_n, nlt p (by omega), nvp (show i < 1600 by omega) (by omega), ncl (show i < 2147483648 by omega), (hb i).2]
    have h := sb_D _ hT
    by_cases q1 : sb (T i) < 48
    · rw [if_pos q1, xb_f (fun w => (h.mpr w.2).1 q1)]
    · rw [if_neg q1]
      by_cases q2 : 57 < sb (T i)
      · rw [if_pos q2, xb_f (fun w => (h.mpr w.2).2 q2)]
      · rw [if_neg q2, xb_t ⟨p, h.mp ⟨q1, q2⟩⟩]
  · simp only [s_MR_isDigit_0, s_MR_isDigit_1, s_MR_isDigit_2, s_MR_isDigit_5, s_MR_isDigit_8, s_MR_isDigit_11, s_MR_isDigit_12, s_MR_isDigit_15, s_MR_isDigit_18, s_MR_isDigit_19, s_MR_isDigit_20, s_MR_isDigit_22, s_MR_isDigit_25, s_MR_isDigit_26, s_MR_isDigit_29, s_MR_isDigit_32, s_MR_isDigit_33, s_MR_isDigit_34, s_MR_isDigit_36, s_MR_isDigit_39, s_MR_isDigit_40, s_MR_isDigit_43, s_MR_isDigit_44, nQF_R, nQC_R, nQF_B, nQC_B, nQl_0, nQf_0, nQl_1, nQf_1, nQl_2, nQf_2, nQl_3, nQf_3, nQl_4, nQf_4, nQl_5, nQf_5, nQl_6, nQf_6, nQl_7, nQf_7, nQl_s, nQf_s, nw_R, nw_B, nw_g0, nw_g1, nw_g2, nw_g3, nw_g4, nw_g5, nw_g6, nw_g7, nw_ns, nQF_M hR, nQC_M hR, nQl_t hR, nQf_t hR, six_0, six_1, six_2, six_3, six_4, six_5, xll_9, xlg_9_0, xlg_9_1, xlg_9_2, xlg_9_3, xlg_9_4, xlg_9_5, xlg_9_6, xlg_9_7, xlg_9_8, xlg_9_9, xlg_9_10, xlg_9_11, xlg_9_12, xlg_9_13, xls_9_0, xls_9_1, xls_9_2, xls_9_3, xls_9_4, xls_9_5, xls_9_6, xls_9_7, xls_9_8, xls_9_9, xls_9_10, xls_9_11, xls_9_12, xls_9_13, xll_10, xlg_10_0, xlg_10_1, xlg_10_2, xlg_10_3, xlg_10_4, xlg_10_5, xlg_10_6, xlg_10_7, xlg_10_8, xlg_10_9, xlg_10_10, xlg_10_11, xlg_10_12, xls_10_0, xls_10_1, xls_10_2, xls_10_3, xls_10_4, xls_10_5, xls_10_6, xls_10_7, xls_10_8, xls_10_9, xls_10_10, xls_10_11, xls_10_12, xll_11, xlg_11_0, xlg_11_1, xlg_11_2, xlg_11_3, xlg_11_4, xlg_11_5, xlg_11_6, xlg_11_7, xlg_11_8, not_false_eq_true, Nat.reduceLT, Nat.reduceAdd, true_and, and_true, if_true, if_false, ite_true, ite_false, xnb_0, xnb_1, xnb_b, xk_v, xk_n, nge (show l ≤ i by omega) (by omega), xb_f (show ¬ tD T l i from fun w => p w.1)]
theorem l_MR_next (hR : 77 < R) (hb : byt T tp) (hl : l ≤ 1600) (hs : sz = nI l) : ∀ m i, i + m = l → xr E d m_MR_next Q (0, [some (.ref R)], [], (nH (mH H K th sz ea tp nw kp wc sk) R (nI i) kn fr nu na tk fa fp wr cl g q ns)) = xr E d m_MR_next Q (61, [some (.ref R)], [], (nH (mH H K th sz ea tp nw kp wc sk) R (nI (scn (pB T l) m i)) kn fr nu na tk fa fp wr cl g q ns)) := by
  subst hs
  intro m
  induction m with
  | zero =>
    intro i hi
    rw [s_MR_next_0]
    simp only [s_MR_next_1, s_MR_next_4, s_MR_next_5, s_MR_next_8, s_MR_next_11, s_MR_next_14, s_MR_next_15, s_MR_next_18, s_MR_next_21, s_MR_next_22, s_MR_next_25, s_MR_next_26, s_MR_next_28, s_MR_next_31, s_MR_next_32, s_MR_next_35, s_MR_next_38, s_MR_next_39, s_MR_next_42, s_MR_next_43, s_MR_next_45, s_MR_next_48, s_MR_next_49, s_MR_next_50, s_MR_next_53, s_MR_next_54, s_MR_next_55, s_MR_next_58, nQF_R, nQC_R, nQF_B, nQC_B, nQl_0, nQf_0, nQl_1, nQf_1, nQl_2, nQf_2, nQl_3, nQf_3, nQl_4, nQf_4, nQl_5, nQf_5, nQl_6, nQf_6, nQl_7, nQf_7, nQl_s, nQf_s, nw_R, nw_B, nw_g0, nw_g1, nw_g2, nw_g3, nw_g4, nw_g5, nw_g6, nw_g7, nw_ns, nQF_M hR, nQC_M hR, nQl_t hR, nQf_t hR, six_0, six_1, six_2, six_3, six_4, six_5, xll_9, xlg_9_0, xlg_9_1, xlg_9_2, xlg_9_3, xlg_9_4, xlg_9_5, xlg_9_6, xlg_9_7, xlg_9_8, xlg_9_9, xlg_9_10, xlg_9_11, xlg_9_12, xlg_9_13, xls_9_0, xls_9_1, xls_9_2, xls_9_3, xls_9_4, xls_9_5, xls_9_6, xls_9_7, xls_9_8, xls_9_9, xls_9_10, xls_9_11, xls_9_12, xls_9_13, xll_10, xlg_10_0, xlg_10_1, xlg_10_2, xlg_10_3, xlg_10_4, xlg_10_5, xlg_10_6, xlg_10_7, xlg_10_8, xlg_10_9, xlg_10_10, xlg_10_11, xlg_10_12, xls_10_0, xls_10_1, xls_10_2, xls_10_3, xls_10_4, xls_10_5, xls_10_6, xls_10_7, xls_10_8, xls_10_9, xls_10_10, xls_10_11, xls_10_12, xll_11, xlg_11_0, xlg_11_1, xlg_11_2, xlg_11_3, xlg_11_4, xlg_11_5, xlg_11_6, xlg_11_7, xlg_11_8, not_false_eq_true, Nat.reduceLT, Nat.reduceAdd, true_and, and_true, if_true, if_false, ite_true, ite_false, xnb_0, xnb_1, xnb_b, xk_v, xk_n, nge (show l ≤ i by omega) (by omega), scn]
  | succ m ih =>
    intro i hi
    have hT := sb_32 _ (hb i).1
    rw [s_MR_next_0]
    simp only [s_MR_next_1, s_MR_next_4, s_MR_next_5, s_MR_next_8, s_MR_next_11, s_MR_next_14, s_MR_next_15, s_MR_next_18, s_MR_next_21, s_MR_next_22, s_MR_next_25, s_MR_next_26, s_MR_next_28, s_MR_next_31, s_MR_next_32, s_MR_next_35, s_MR_next_38, s_MR_next_39, s_MR_next_42, s_MR_next_43, s_MR_next_45, s_MR_next_48, s_MR_next_49, s_MR_next_50, s_MR_next_53, s_MR_next_54, s_MR_next_55, s_MR_next_58, nQF_R, nQC_R, nQF_B, nQC_B, nQl_0, nQf_0, nQl_1, nQf_1, nQl_2, nQf_2, nQl_3, nQf_3, nQl_4, nQf_4, nQl_5, nQf_5, nQl_6, nQf_6, nQl_7, nQf_7, nQl_s, nQf_s, nw_R, nw_B, nw_g0, nw_g1, nw_g2, nw_g3, nw_g4, nw_g5, nw_g6, nw_g7, nw_ns, nQF_M hR, nQC_M hR, nQl_t hR, nQf_t hR, six_0, six_1, six_2, six_3, six_4, six_5, xll_9, xlg_9_0, xlg_9_1, xlg_9_2, xlg_9_3, xlg_9_4, xlg_9_5, xlg_9_6, xlg_9_7, xlg_9_8, xlg_9_9, xlg_9_10, xlg_9_11, xlg_9_12, xlg_9_13, xls_9_0, xls_9_1, xls_9_2, xls_9_3, xls_9_4, xls_9_5, xls_9_6, xls_9_7, xls_9_8, xls_9_9, xls_9_10, xls_9_11, xls_9_12, xls_9_13, xll_10, xlg_10_0, xlg_10_1, xlg_10_2, xlg_10_3, xlg_10_4, xlg_10_5, xlg_10_6, xlg_10_7, xlg_10_8, xlg_10_9, xlg_10_10, xlg_10_11, xlg_10_12, xls_10_0, xls_10_1, xls_10_2, xls_10_3, xls_10_4, xls_10_5, xls_10_6, xls_10_7, xls_10_8, xls_10_9, xls_10_10, xls_10_11, xls_10_12, xll_11, xlg_11_0, xlg_11_1, xlg_11_2, xlg_11_3, xlg_11_4, xlg_11_5, xlg_11_6, xlg_11_7, xlg_11_8, not_false_eq_true, Nat.reduceLT, Nat.reduceAdd, true_and, and_true, if_true, if_false, ite_true, ite_false, xnb_0, xnb_1, xnb_b, xk_v, xk_n, nlt (show i < l by omega) (by omega), nvp (show i < 1600 by omega) (by omega), ncl (show i < 2147483648 by omega), (hb i).2, nI_1, ih (i + 1) (by omega), scn]
    by_cases p : T i = 32
    · rw [if_pos (hT.1.mpr p)]; simp only [pB_t (show tB T l i from ⟨by omega, Or.inl p⟩), if_true]
    · rw [if_neg (fun h => p (hT.1.mp h))]
      by_cases r : T i = 10
      · rw [if_pos (hT.2.mpr r)]; simp only [pB_t (show tB T l i from ⟨by omega, Or.inr r⟩), if_true]
      · rw [if_neg (fun h => r (hT.2.mp h))]; simp only [pB_f (show ¬ tB T l i from fun h => h.2.elim p r), Bool.false_eq_true, if_false]
theorem orQ0 {p : Prop} [Decidable p] : (if p then Q (.inl (some (.int 1)), H) else Q (.inl (some (.int 0)), H)) = Q (.inl (some (.int (xb p))), H) := by
  by_cases h : p
  · rw [if_pos h, xb_t h]
  · rw [if_neg h, xb_f h]
theorem orQ {p q : Prop} [Decidable p] [Decidable q] : (if p then Q (.inl (some (.int 1)), H) else Q (.inl (some (.int (xb q))), H)) = Q (.inl (some (.int (xb (p ∨ q)))), H) := by
  by_cases h : p
  · rw [if_pos h, xb_t (Or.inl h)]
  · rw [if_neg h]
    by_cases h' : q
    · rw [xb_t h', xb_t (Or.inr h')]
    · rw [xb_f h', xb_f (fun w => w.elim h h')]
theorem f_MR_isSign (v : Int32) : xcall E xprog (d + 1) 126 [.ref R, .int v] H Q = Q (.inl (some (.int (xb (v = 40 ∨ v = 41 ∨ v = 59 ∨ v = 44 ∨ v = 60 ∨ v = 62 ∨ v = 61 ∨ v = 43 ∨ v = 45 ∨ v = 42 ∨ v = 47 ∨ v = 37)))), H) := by
  rw [e_MR_isSign]
  simp only [s_MR_isSign_0, s_MR_isSign_1, s_MR_isSign_3, s_MR_isSign_6, s_MR_isSign_7, s_MR_isSign_9, s_MR_isSign_12, s_MR_isSign_13, s_MR_isSign_15, s_MR_isSign_18, s_MR_isSign_19, s_MR_isSign_21, s_MR_isSign_24, s_MR_isSign_25, s_MR_isSign_27, s_MR_isSign_30, s_MR_isSign_31, s_MR_isSign_33, s_MR_isSign_36, s_MR_isSign_37, s_MR_isSign_39, s_MR_isSign_42, s_MR_isSign_43, s_MR_isSign_45, s_MR_isSign_48, s_MR_isSign_49, s_MR_isSign_51, s_MR_isSign_54, s_MR_isSign_55, s_MR_isSign_57, s_MR_isSign_60, s_MR_isSign_61, s_MR_isSign_63, s_MR_isSign_66, s_MR_isSign_67, s_MR_isSign_69, s_MR_isSign_72, s_MR_isSign_73, s_MR_isSign_76, s_MR_isSign_77, not_false_eq_true, Nat.reduceLT, Nat.reduceAdd, true_and, and_true, if_true, if_false, ite_true, ite_false, xnb_0, xnb_1, xnb_b, xk_v, xk_n]
  simp only [orQ0, orQ]
/-- a text's number -/
def cod (i : Nat) : Nat → Nat → Int64 → Int64
  | _, 0, z => z
  | j, m + 1, z => cod i (j + 1) m (27 * z + (tch i j).toInt64 - 97 + 1)
def cdW (i : Nat) : Int64 := cod i 0 (tln i) 0
theorem l_MR_code {i : Nat} (hi : i < 28) : ∀ m j (z : Int64), j + m = tln i → xr E (d + 4) m_MR_code Q (5, [some (.ref R), some (.retAddr (100 + 2 * i)), some (.long z), some xmk, some (.int (nI j))], [], H) = Q (.inl (some (.long (cod i j m z))), H) := by
  obtain ⟨h1, h2, h3⟩ := tx_ok i hi
  have hx : (∃ i', xisT (100 + 2 * i) = some i') = True := eq_true ⟨i, xT_i hi⟩
  intro m
  induction m with
  | zero =>
    intro j z hj
    rw [s_MR_code_5]
    simp only [s_MR_code_0, s_MR_code_1, s_MR_code_2, s_MR_code_3, s_MR_code_7, s_MR_code_8, s_MR_code_11, s_MR_code_14, s_MR_code_17, s_MR_code_18, s_MR_code_19, s_MR_code_20, s_MR_code_22, s_MR_code_25, s_MR_code_26, s_MR_code_27, s_MR_code_30, s_MR_code_31, s_MR_code_32, s_MR_code_33, s_MR_code_34, s_MR_code_37, s_MR_code_40, s_MR_code_41, not_false_eq_true, Nat.reduceLT, Nat.reduceAdd, true_and, and_true, if_true, if_false, ite_true, ite_false, xnb_0, xnb_1, xnb_b, xk_v, xk_n, f_JS_length hi, hx, nge (show tln i ≤ j by omega) (by omega), cod]
  | succ m ih =>
    intro j z hj
    rw [s_MR_code_5]
    simp only [s_MR_code_0, s_MR_code_1, s_MR_code_2, s_MR_code_3, s_MR_code_7, s_MR_code_8, s_MR_code_11, s_MR_code_14, s_MR_code_17, s_MR_code_18, s_MR_code_19, s_MR_code_20, s_MR_code_22, s_MR_code_25, s_MR_code_26, s_MR_code_27, s_MR_code_30, s_MR_code_31, s_MR_code_32, s_MR_code_33, s_MR_code_34, s_MR_code_37, s_MR_code_40, s_MR_code_41, not_false_eq_true, Nat.reduceLT, Nat.reduceAdd, true_and, and_true, if_true, if_false, ite_true, ite_false, xnb_0, xnb_1, xnb_b, xk_v, xk_n, f_JS_length hi, hx, nlt (show j < tln i by omega) (by omega), f_JS_charAt hi (show j < tln i by omega), nI_1, cod]
    exact ih (j + 1) _ (by omega)
theorem f_MR_code {i : Nat} (hi : i < 28) : xcall E xprog (d + 5) 129 [.ref R, .retAddr (100 + 2 * i)] H Q = Q (.inl (some (.long (cdW i))), H) := by
  rw [e_MR_code, s_MR_code_0, s_MR_code_1, s_MR_code_2, s_MR_code_3]
  exact l_MR_code hi (tln i) 0 0 (by omega)
theorem xr_al1 {y : xM} {pc l r1 r2 r3 x : Nat} {ls : List (Option Value)} {st : List Value} (h : y.cd pc = some (.arraylength, l, r1, r2, r3, x)) : xr E d y Q (pc, ls, .retAddr 1 :: st, H) = xr E d y Q (pc + 1, ls, .int 26 :: st, H) := by
  refine xr_n1 ?_
  unfold xact
  rw [h]
  rfl
theorem xr_aa {y : xM} {pc l r1 r2 r3 x : Nat} {j : Int32} {ls : List (Option Value)} {st : List Value} (h : y.cd pc = some (.aaload, l, r1, r2, r3, x)) : xr E d y Q (pc, ls, .int j :: .retAddr 1 :: st, H) = (vp_in j 26 ∧ xr E d y Q (pc + 1, ls, .retAddr (100 + 2 * j.toNatClampNeg) :: st, H)) := by
  refine xr_n3 ?_ Iff.rfl
  unfold xact
  rw [h]
  rfl
/-- a word's kind -/
def kwm (v : Int64) : Nat → Nat → Int32
  | _, 0 => 2
  | i, m + 1 => if cdW i = v then 200 + nI i else kwm v (i + 1) m
theorem l_MR_kwm : ∀ m i, i + m = 26 → xr E (d + 5) m_MR_word Q (93, [some (.ref R), some (.int (nI i))], [], (nH (mH H K th sz ea tp nw kp wc sk) R a0 kn fr nu na tk fa fp wr cl g q ns)) = Q (.inl (some (.int (kwm na i m))), (nH (mH H K th sz ea tp nw kp wc sk) R a0 kn fr nu na tk fa fp wr cl g q ns)) := by
  have ha := fun ls st => xr_al1 (E := E) (d := d + 5) (Q := Q) (H := (nH (mH H K th sz ea tp nw kp wc sk) R a0 kn fr nu na tk fa fp wr cl g q ns)) (y := m_MR_word) (pc := 97) (ls := ls) (st := st) rfl
  intro m
  induction m with
  | zero =>
    intro i hi
    have : i = 26 := by omega
    subst this
    rw [s_MR_word_93]
    simp only [s_MR_word_0, s_MR_word_1, s_MR_word_2, s_MR_word_6, s_MR_word_7, s_MR_word_10, s_MR_word_13, s_MR_word_16, s_MR_word_17, s_MR_word_20, s_MR_word_21, s_MR_word_24, s_MR_word_25, s_MR_word_27, s_MR_word_30, s_MR_word_31, s_MR_word_34, s_MR_word_35, s_MR_word_38, s_MR_word_39, s_MR_word_40, s_MR_word_43, s_MR_word_46, s_MR_word_47, s_MR_word_50, s_MR_word_51, s_MR_word_52, s_MR_word_53, s_MR_word_56, s_MR_word_57, s_MR_word_58, s_MR_word_59, s_MR_word_62, s_MR_word_63, s_MR_word_64, s_MR_word_67, s_MR_word_68, s_MR_word_69, s_MR_word_72, s_MR_word_75, s_MR_word_76, s_MR_word_79, s_MR_word_80, s_MR_word_83, s_MR_word_84, s_MR_word_86, s_MR_word_89, s_MR_word_90, s_MR_word_91, s_MR_word_92, s_MR_word_94, s_MR_word_98, s_MR_word_101, s_MR_word_102, s_MR_word_105, s_MR_word_107, s_MR_word_110, s_MR_word_111, s_MR_word_114, s_MR_word_115, s_MR_word_118, s_MR_word_121, s_MR_word_122, s_MR_word_123, s_MR_word_124, s_MR_word_127, s_MR_word_130, s_MR_word_131, ha, not_false_eq_true, Nat.reduceLT, Nat.reduceAdd, true_and, and_true, if_true, if_false, ite_true, ite_false, xnb_0, xnb_1, xnb_b, xk_v, xk_n, show (nI 26 < 26) = False from nge (n := 26) (Nat.le_refl 26) (by omega), kwm]
  | succ m ih =>
    intro i hi
    have hb := fun ls st => xr_aa (E := E) (d := d + 5) (Q := Q) (H := (nH (mH H K th sz ea tp nw kp wc sk) R a0 kn fr nu na tk fa fp wr cl g q ns)) (y := m_MR_word) (pc := 106) (j := nI i) (ls := ls) (st := st) rfl
    rw [s_MR_word_93]
    simp only [s_MR_word_0, s_MR_word_1, s_MR_word_2, s_MR_word_6, s_MR_word_7, s_MR_word_10, s_MR_word_13, s_MR_word_16, s_MR_word_17, s_MR_word_20, s_MR_word_21, s_MR_word_24, s_MR_word_25, s_MR_word_27, s_MR_word_30, s_MR_word_31, s_MR_word_34, s_MR_word_35, s_MR_word_38, s_MR_word_39, s_MR_word_40, s_MR_word_43, s_MR_word_46, s_MR_word_47, s_MR_word_50, s_MR_word_51, s_MR_word_52, s_MR_word_53, s_MR_word_56, s_MR_word_57, s_MR_word_58, s_MR_word_59, s_MR_word_62, s_MR_word_63, s_MR_word_64, s_MR_word_67, s_MR_word_68, s_MR_word_69, s_MR_word_72, s_MR_word_75, s_MR_word_76, s_MR_word_79, s_MR_word_80, s_MR_word_83, s_MR_word_84, s_MR_word_86, s_MR_word_89, s_MR_word_90, s_MR_word_91, s_MR_word_92, s_MR_word_94, s_MR_word_98, s_MR_word_101, s_MR_word_102, s_MR_word_105, s_MR_word_107, s_MR_word_110, s_MR_word_111, s_MR_word_114, s_MR_word_115, s_MR_word_118, s_MR_word_121, s_MR_word_122, s_MR_word_123, s_MR_word_124, s_MR_word_127, s_MR_word_130, s_MR_word_131, ha, hb, not_false_eq_true, Nat.reduceLT, Nat.reduceAdd, true_and, and_true, if_true, if_false, ite_true, ite_false, xnb_0, xnb_1, xnb_b, xk_v, xk_n, nQF_R, nQC_R, xll_10, xlg_10_0, xlg_10_1, xlg_10_2, xlg_10_3, xlg_10_4, xlg_10_5, xlg_10_6, xlg_10_7, xlg_10_8, xlg_10_9, xlg_10_10, xlg_10_11, xlg_10_12, show (nI i < 26) = True from nlt (n := 26) (show i < 26 by omega) (by omega), nvp (show i < 26 by omega) (by omega), ncl (show i < 2147483648 by omega), f_MR_code (show i < 28 by omega), lg_cmp_eq, nI_1, ih (i + 1) (by omega), kwm]
    by_cases p : cdW i = na
    · rw [if_pos p, if_pos p]
    · rw [if_neg p, if_neg p]
def wlP (T : Nat → Nat) (l a : Nat) : Nat → Nat → Int64 → Nat × Int64
  | 0, x, z => (x, z)
  | m + 1, x, z => if pL T l x = true ∧ x - a < 9 then wlP T l a m (x + 1) (27 * z + (sb (T x)).toInt64 - 97 + 1) else (x, z)
def dlP (T : Nat → Nat) (l a : Nat) : Nat → Nat → Int32 → Nat × Int32
  | 0, x, z => (x, z)
  | m + 1, x, z => if pD T l x = true ∧ x - a < 5 then dlP T l a m (x + 1) (10 * z + sb (T x) - 48) else (x, z)
theorem nI_s {x a : Nat} (h : a ≤ x) : nI x - nI a = nI (x - a) := by
  have := nI_ad (x - a) a
  rw [show x - a + a = x by omega] at this
  rw [← this]
  exact Int32.add_sub_cancel _ _
theorem l_MR_word (hR : 77 < R) (hb : byt T tp) (hl : l ≤ 1600) (hs : sz = nI l) (a : Nat) : ∀ m x (z : Int64), a ≤ x → x ≤ l → 9 - (x - a) < m → xr E (d + 1) m_MR_word Q (5, [some (.ref R), none], [], (nH (mH H K th sz ea tp nw kp wc sk) R (nI x) kn (nI a) nu z tk fa fp wr cl g q ns)) = xr E (d + 1) m_MR_word Q (75, [some (.ref R), none], [], (nH (mH H K th sz ea tp nw kp wc sk) R (nI (wlP T l a m x z).1) kn (nI a) nu (wlP T l a m x z).2 tk fa fp wr cl g q ns)) := by
  subst hs
  intro m
  induction m with
  | zero => intro x z h1 h2 h3; exact absurd h3 (Nat.not_lt_zero _)
  | succ m ih =>
    intro x z h1 h2 h3
    have q9 : (nI (x - a) < 9) = (x - a < 9) := n_lt (b := 9) (by omega) (by omega)
    rw [s_MR_word_5]
    by_cases p : tL T l x
    · by_cases r : x - a < 9
      · simp only [s_MR_word_6, s_MR_word_7, s_MR_word_10, s_MR_word_13, s_MR_word_16, s_MR_word_17, s_MR_word_20, s_MR_word_21, s_MR_word_24, s_MR_word_25, s_MR_word_27, s_MR_word_30, s_MR_word_31, s_MR_word_34, s_MR_word_35, s_MR_word_38, s_MR_word_39, s_MR_word_40, s_MR_word_43, s_MR_word_46, s_MR_word_47, s_MR_word_50, s_MR_word_51, s_MR_word_52, s_MR_word_53, s_MR_word_56, s_MR_word_57, s_MR_word_58, s_MR_word_59, s_MR_word_62, s_MR_word_63, s_MR_word_64, s_MR_word_67, s_MR_word_68, s_MR_word_69, s_MR_word_72, nQF_R, nQC_R, nQF_B, nQC_B, nQl_0, nQf_0, nQl_1, nQf_1, nQl_2, nQf_2, nQl_3, nQf_3, nQl_4, nQf_4, nQl_5, nQf_5, nQl_6, nQf_6, nQl_7, nQf_7, nQl_s, nQf_s, nw_R, nw_B, nw_g0, nw_g1, nw_g2, nw_g3, nw_g4, nw_g5, nw_g6, nw_g7, nw_ns, nQF_M hR, nQC_M hR, nQl_t hR, nQf_t hR, six_0, six_1, six_2, six_3, six_4, six_5, xll_9, xlg_9_0, xlg_9_1, xlg_9_2, xlg_9_3, xlg_9_4, xlg_9_5, xlg_9_6, xlg_9_7, xlg_9_8, xlg_9_9, xlg_9_10, xlg_9_11, xlg_9_12, xlg_9_13, xls_9_0, xls_9_1, xls_9_2, xls_9_3, xls_9_4, xls_9_5, xls_9_6, xls_9_7, xls_9_8, xls_9_9, xls_9_10, xls_9_11, xls_9_12, xls_9_13, xll_10, xlg_10_0, xlg_10_1, xlg_10_2, xlg_10_3, xlg_10_4, xlg_10_5, xlg_10_6, xlg_10_7, xlg_10_8, xlg_10_9, xlg_10_10, xlg_10_11, xlg_10_12, xls_10_0, xls_10_1, xls_10_2, xls_10_3, xls_10_4, xls_10_5, xls_10_6, xls_10_7, xls_10_8, xls_10_9, xls_10_10, xls_10_11, xls_10_12, xll_11, xlg_11_0, xlg_11_1, xlg_11_2, xlg_11_3, xlg_11_4, xlg_11_5, xlg_11_6, xlg_11_7, xlg_11_8, not_false_eq_true, Nat.reduceLT, Nat.reduceAdd, true_and, and_true, if_true, if_false, ite_true, ite_false, xnb_0, xnb_1, xnb_b, xk_v, xk_n, f_MR_isLetter hR hb hl x (by omega) xb_t p, k1_0, nI_s h1, q9, r, nvp (show x < 1600 by have := p.1; omega) (by omega), ncl (show x < 2147483648 by omega), (hb x).2, nI_1, ih (x + 1) _ (by omega) (by have := p.1; omega) (by omega), wlP, pL_t p, and_self]
      · simp only [s_MR_word_6, s_MR_word_7, s_MR_word_10, s_MR_word_13, s_MR_word_16, s_MR_word_17, s_MR_word_20, s_MR_word_21, s_MR_word_24, s_MR_word_25, s_MR_word_27, s_MR_word_30, s_MR_word_31, s_MR_word_34, s_MR_word_35, s_MR_word_38, s_MR_word_39, s_MR_word_40, s_MR_word_43, s_MR_word_46, s_MR_word_47, s_MR_word_50, s_MR_word_51, s_MR_word_52, s_MR_word_53, s_MR_word_56, s_MR_word_57, s_MR_word_58, s_MR_word_59, s_MR_word_62, s_MR_word_63, s_MR_word_64, s_MR_word_67, s_MR_word_68, s_MR_word_69, s_MR_word_72, nQF_R, nQC_R, nQF_B, nQC_B, nQl_0, nQf_0, nQl_1, nQf_1, nQl_2, nQf_2, nQl_3, nQf_3, nQl_4, nQf_4, nQl_5, nQf_5, nQl_6, nQf_6, nQl_7, nQf_7, nQl_s, nQf_s, nw_R, nw_B, nw_g0, nw_g1, nw_g2, nw_g3, nw_g4, nw_g5, nw_g6, nw_g7, nw_ns, nQF_M hR, nQC_M hR, nQl_t hR, nQf_t hR, six_0, six_1, six_2, six_3, six_4, six_5, xll_9, xlg_9_0, xlg_9_1, xlg_9_2, xlg_9_3, xlg_9_4, xlg_9_5, xlg_9_6, xlg_9_7, xlg_9_8, xlg_9_9, xlg_9_10, xlg_9_11, xlg_9_12, xlg_9_13, xls_9_0, xls_9_1, xls_9_2, xls_9_3, xls_9_4, xls_9_5, xls_9_6, xls_9_7, xls_9_8, xls_9_9, xls_9_10, xls_9_11, xls_9_12, xls_9_13, xll_10, xlg_10_0, xlg_10_1, xlg_10_2, xlg_10_3, xlg_10_4, xlg_10_5, xlg_10_6, xlg_10_7, xlg_10_8, xlg_10_9, xlg_10_10, xlg_10_11, xlg_10_12, xls_10_0, xls_10_1, xls_10_2, xls_10_3, xls_10_4, xls_10_5, xls_10_6, xls_10_7, xls_10_8, xls_10_9, xls_10_10, xls_10_11, xls_10_12, xll_11, xlg_11_0, xlg_11_1, xlg_11_2, xlg_11_3, xlg_11_4, xlg_11_5, xlg_11_6, xlg_11_7, xlg_11_8, not_false_eq_true, Nat.reduceLT, Nat.reduceAdd, true_and, and_true, if_true, if_false, ite_true, ite_false, xnb_0, xnb_1, xnb_b, xk_v, xk_n, f_MR_isLetter hR hb hl x (by omega) xb_t p, k1_0, nI_s h1, q9, r, wlP, and_false]
    · simp only [s_MR_word_6, s_MR_word_7, s_MR_word_10, s_MR_word_13, s_MR_word_16, s_MR_word_17, s_MR_word_20, s_MR_word_21, s_MR_word_24, s_MR_word_25, s_MR_word_27, s_MR_word_30, s_MR_word_31, s_MR_word_34, s_MR_word_35, s_MR_word_38, s_MR_word_39, s_MR_word_40, s_MR_word_43, s_MR_word_46, s_MR_word_47, s_MR_word_50, s_MR_word_51, s_MR_word_52, s_MR_word_53, s_MR_word_56, s_MR_word_57, s_MR_word_58, s_MR_word_59, s_MR_word_62, s_MR_word_63, s_MR_word_64, s_MR_word_67, s_MR_word_68, s_MR_word_69, s_MR_word_72, nQF_R, nQC_R, nQF_B, nQC_B, nQl_0, nQf_0, nQl_1, nQf_1, nQl_2, nQf_2, nQl_3, nQf_3, nQl_4, nQf_4, nQl_5, nQf_5, nQl_6, nQf_6, nQl_7, nQf_7, nQl_s, nQf_s, nw_R, nw_B, nw_g0, nw_g1, nw_g2, nw_g3, nw_g4, nw_g5, nw_g6, nw_g7, nw_ns, nQF_M hR, nQC_M hR, nQl_t hR, nQf_t hR, six_0, six_1, six_2, six_3, six_4, six_5, xll_9, xlg_9_0, xlg_9_1, xlg_9_2, xlg_9_3, xlg_9_4, xlg_9_5, xlg_9_6, xlg_9_7, xlg_9_8, xlg_9_9, xlg_9_10, xlg_9_11, xlg_9_12, xlg_9_13, xls_9_0, xls_9_1, xls_9_2, xls_9_3, xls_9_4, xls_9_5, xls_9_6, xls_9_7, xls_9_8, xls_9_9, xls_9_10, xls_9_11, xls_9_12, xls_9_13, xll_10, xlg_10_0, xlg_10_1, xlg_10_2, xlg_10_3, xlg_10_4, xlg_10_5, xlg_10_6, xlg_10_7, xlg_10_8, xlg_10_9, xlg_10_10, xlg_10_11, xlg_10_12, xls_10_0, xls_10_1, xls_10_2, xls_10_3, xls_10_4, xls_10_5, xls_10_6, xls_10_7, xls_10_8, xls_10_9, xls_10_10, xls_10_11, xls_10_12, xll_11, xlg_11_0, xlg_11_1, xlg_11_2, xlg_11_3, xlg_11_4, xlg_11_5, xlg_11_6, xlg_11_7, xlg_11_8, not_false_eq_true, Nat.reduceLT, Nat.reduceAdd, true_and, and_true, if_true, if_false, ite_true, ite_false, xnb_0, xnb_1, xnb_b, xk_v, xk_n, f_MR_isLetter hR hb hl x (by omega) xb_f p, wlP, pL_f p, Bool.false_eq_true, false_and]
theorem wlP_le {a : Nat} : ∀ m x (z : Int64), x ≤ (wlP T l a m x z).1 ∧ (x ≤ l → (wlP T l a m x z).1 ≤ l)
  | 0, _, _ => ⟨Nat.le_refl _, fun h => h⟩
  | m + 1, x, z => by
    unfold wlP
    split
    · rename_i h
      have := wlP_le (a := a) m (x + 1) (27 * z + (sb (T x)).toInt64 - 97 + 1)
      have h' : tL T l x := of_decide_eq_true h.1
      exact ⟨by omega, fun _ => this.2 (by have := h'.1; omega)⟩
    · exact ⟨Nat.le_refl _, fun h => h⟩
theorem dlP_le {a : Nat} : ∀ m x (z : Int32), x ≤ (dlP T l a m x z).1 ∧ (x ≤ l → (dlP T l a m x z).1 ≤ l)
  | 0, _, _ => ⟨Nat.le_refl _, fun h => h⟩
  | m + 1, x, z => by
    unfold dlP
    split
    · rename_i h
      have := dlP_le (a := a) m (x + 1) (10 * z + sb (T x) - 48)
      have h' : tD T l x := of_decide_eq_true h.1
      exact ⟨by omega, fun _ => this.2 (by have := h'.1; omega)⟩
    · exact ⟨Nat.le_refl _, fun h => h⟩
theorem l_MR_digits (hR : 77 < R) (hb : byt T tp) (hl : l ≤ 1600) (hs : sz = nI l) (a : Nat) : ∀ m x (z : Int32), a ≤ x → x ≤ l → 5 - (x - a) < m → xr E (d + 1) m_MR_token Q (48, [some (.ref R), none], [], (nH (mH H K th sz ea tp nw kp wc sk) R (nI x) kn (nI a) z na tk fa fp wr cl g q ns)) = xr E (d + 1) m_MR_token Q (112, [some (.ref R), none], [], (nH (mH H K th sz ea tp nw kp wc sk) R (nI (dlP T l a m x z).1) kn (nI a) (dlP T l a m x z).2 na tk fa fp wr cl g q ns)) := by
  subst hs
  intro m
  induction m with
  | zero => intro x z h1 h2 h3; exact absurd h3 (Nat.not_lt_zero _)
  | succ m ih =>
    intro x z h1 h2 h3
    have q9 : (nI (x - a) < 5) = (x - a < 5) := n_lt (b := 5) (by omega) (by omega)
    rw [s_MR_token_48]
    by_cases p : tD T l x
    · by_cases r : x - a < 5
      · simp only [s_MR_token_49, s_MR_token_50, s_MR_token_53, s_MR_token_56, s_MR_token_59, s_MR_token_60, s_MR_token_63, s_MR_token_64, s_MR_token_67, s_MR_token_68, s_MR_token_69, s_MR_token_72, s_MR_token_73, s_MR_token_75, s_MR_token_76, s_MR_token_79, s_MR_token_80, s_MR_token_81, s_MR_token_84, s_MR_token_87, s_MR_token_88, s_MR_token_91, s_MR_token_92, s_MR_token_93, s_MR_token_95, s_MR_token_96, s_MR_token_99, s_MR_token_100, s_MR_token_101, s_MR_token_104, s_MR_token_105, s_MR_token_106, s_MR_token_109, nQF_R, nQC_R, nQF_B, nQC_B, nQl_0, nQf_0, nQl_1, nQf_1, nQl_2, nQf_2, nQl_3, nQf_3, nQl_4, nQf_4, nQl_5, nQf_5, nQl_6, nQf_6, nQl_7, nQf_7, nQl_s, nQf_s, nw_R, nw_B, nw_g0, nw_g1, nw_g2, nw_g3, nw_g4, nw_g5, nw_g6, nw_g7, nw_ns, nQF_M hR, nQC_M hR, nQl_t hR, nQf_t hR, six_0, six_1, six_2, six_3, six_4, six_5, xll_9, xlg_9_0, xlg_9_1, xlg_9_2, xlg_9_3, xlg_9_4, xlg_9_5, xlg_9_6, xlg_9_7, xlg_9_8, xlg_9_9, xlg_9_10, xlg_9_11, xlg_9_12, xlg_9_13, xls_9_0, xls_9_1, xls_9_2, xls_9_3, xls_9_4, xls_9_5, xls_9_6, xls_9_7, xls_9_8, xls_9_9, xls_9_10, xls_9_11, xls_9_12, xls_9_13, xll_10, xlg_10_0, xlg_10_1, xlg_10_2, xlg_10_3, xlg_10_4, xlg_10_5, xlg_10_6, xlg_10_7, xlg_10_8, xlg_10_9, xlg_10_10, xlg_10_11, xlg_10_12, xls_10_0, xls_10_1, xls_10_2, xls_10_3, xls_10_4, xls_10_5, xls_10_6, xls_10_7, xls_10_8, xls_10_9, xls_10_10, xls_10_11, xls_10_12, xll_11, xlg_11_0, xlg_11_1, xlg_11_2, xlg_11_3, xlg_11_4, xlg_11_5, xlg_11_6, xlg_11_7, xlg_11_8, not_false_eq_true, Nat.reduceLT, Nat.reduceAdd, true_and, and_true, if_true, if_false, ite_true, ite_false, xnb_0, xnb_1, xnb_b, xk_v, xk_n, f_MR_isDigit hR hb hl x (by omega) xb_t p, k1_0, nI_s h1, q9, r, nvp (show x < 1600 by have := p.1; omega) (by omega), ncl (show x < 2147483648 by omega), (hb x).2, nI_1, ih (x + 1) _ (by omega) (by have := p.1; omega) (by omega), dlP, pD_t p, and_self]
      · simp only [s_MR_token_49, s_MR_token_50, s_MR_token_53, s_MR_token_56, s_MR_token_59, s_MR_token_60, s_MR_token_63, s_MR_token_64, s_MR_token_67, s_MR_token_68, s_MR_token_69, s_MR_token_72, s_MR_token_73, s_MR_token_75, s_MR_token_76, s_MR_token_79, s_MR_token_80, s_MR_token_81, s_MR_token_84, s_MR_token_87, s_MR_token_88, s_MR_token_91, s_MR_token_92, s_MR_token_93, s_MR_token_95, s_MR_token_96, s_MR_token_99, s_MR_token_100, s_MR_token_101, s_MR_token_104, s_MR_token_105, s_MR_token_106, s_MR_token_109, nQF_R, nQC_R, nQF_B, nQC_B, nQl_0, nQf_0, nQl_1, nQf_1, nQl_2, nQf_2, nQl_3, nQf_3, nQl_4, nQf_4, nQl_5, nQf_5, nQl_6, nQf_6, nQl_7, nQf_7, nQl_s, nQf_s, nw_R, nw_B, nw_g0, nw_g1, nw_g2, nw_g3, nw_g4, nw_g5, nw_g6, nw_g7, nw_ns, nQF_M hR, nQC_M hR, nQl_t hR, nQf_t hR, six_0, six_1, six_2, six_3, six_4, six_5, xll_9, xlg_9_0, xlg_9_1, xlg_9_2, xlg_9_3, xlg_9_4, xlg_9_5, xlg_9_6, xlg_9_7, xlg_9_8, xlg_9_9, xlg_9_10, xlg_9_11, xlg_9_12, xlg_9_13, xls_9_0, xls_9_1, xls_9_2, xls_9_3, xls_9_4, xls_9_5, xls_9_6, xls_9_7, xls_9_8, xls_9_9, xls_9_10, xls_9_11, xls_9_12, xls_9_13, xll_10, xlg_10_0, xlg_10_1, xlg_10_2, xlg_10_3, xlg_10_4, xlg_10_5, xlg_10_6, xlg_10_7, xlg_10_8, xlg_10_9, xlg_10_10, xlg_10_11, xlg_10_12, xls_10_0, xls_10_1, xls_10_2, xls_10_3, xls_10_4, xls_10_5, xls_10_6, xls_10_7, xls_10_8, xls_10_9, xls_10_10, xls_10_11, xls_10_12, xll_11, xlg_11_0, xlg_11_1, xlg_11_2, xlg_11_3, xlg_11_4, xlg_11_5, xlg_11_6, xlg_11_7, xlg_11_8, not_false_eq_true, Nat.reduceLT, Nat.reduceAdd, true_and, and_true, if_true, if_false, ite_true, ite_false, xnb_0, xnb_1, xnb_b, xk_v, xk_n, f_MR_isDigit hR hb hl x (by omega) xb_t p, k1_0, nI_s h1, q9, r, dlP, and_false]
    · simp only [s_MR_token_49, s_MR_token_50, s_MR_token_53, s_MR_token_56, s_MR_token_59, s_MR_token_60, s_MR_token_63, s_MR_token_64, s_MR_token_67, s_MR_token_68, s_MR_token_69, s_MR_token_72, s_MR_token_73, s_MR_token_75, s_MR_token_76, s_MR_token_79, s_MR_token_80, s_MR_token_81, s_MR_token_84, s_MR_token_87, s_MR_token_88, s_MR_token_91, s_MR_token_92, s_MR_token_93, s_MR_token_95, s_MR_token_96, s_MR_token_99, s_MR_token_100, s_MR_token_101, s_MR_token_104, s_MR_token_105, s_MR_token_106, s_MR_token_109, nQF_R, nQC_R, nQF_B, nQC_B, nQl_0, nQf_0, nQl_1, nQf_1, nQl_2, nQf_2, nQl_3, nQf_3, nQl_4, nQf_4, nQl_5, nQf_5, nQl_6, nQf_6, nQl_7, nQf_7, nQl_s, nQf_s, nw_R, nw_B, nw_g0, nw_g1, nw_g2, nw_g3, nw_g4, nw_g5, nw_g6, nw_g7, nw_ns, nQF_M hR, nQC_M hR, nQl_t hR, nQf_t hR, six_0, six_1, six_2, six_3, six_4, six_5, xll_9, xlg_9_0, xlg_9_1, xlg_9_2, xlg_9_3, xlg_9_4, xlg_9_5, xlg_9_6, xlg_9_7, xlg_9_8, xlg_9_9, xlg_9_10, xlg_9_11, xlg_9_12, xlg_9_13, xls_9_0, xls_9_1, xls_9_2, xls_9_3, xls_9_4, xls_9_5, xls_9_6, xls_9_7, xls_9_8, xls_9_9, xls_9_10, xls_9_11, xls_9_12, xls_9_13, xll_10, xlg_10_0, xlg_10_1, xlg_10_2, xlg_10_3, xlg_10_4, xlg_10_5, xlg_10_6, xlg_10_7, xlg_10_8, xlg_10_9, xlg_10_10, xlg_10_11, xlg_10_12, xls_10_0, xls_10_1, xls_10_2, xls_10_3, xls_10_4, xls_10_5, xls_10_6, xls_10_7, xls_10_8, xls_10_9, xls_10_10, xls_10_11, xls_10_12, xll_11, xlg_11_0, xlg_11_1, xlg_11_2, xlg_11_3, xlg_11_4, xlg_11_5, xlg_11_6, xlg_11_7, xlg_11_8, not_false_eq_true, Nat.reduceLT, Nat.reduceAdd, true_and, and_true, if_true, if_false, ite_true, ite_false, xnb_0, xnb_1, xnb_b, xk_v, xk_n, f_MR_isDigit hR hb hl x (by omega) xb_f p, dlP, pD_f p, Bool.false_eq_true, false_and]
/-- a token of the model: its kind, what stands behind it, its number, its name -/
def wrd (T : Nat → Nat) (l a : Nat) : Nat × Int64 := wlP T l a 10 a 0
def dig (T : Nat → Nat) (l a : Nat) : Nat × Int32 := dlP T l a 6 a 0
def sgM (v : Int32) : Prop := v = 40 ∨ v = 41 ∨ v = 59 ∨ v = 44 ∨ v = 60 ∨ v = 62 ∨ v = 61 ∨ v = 43 ∨ v = 45 ∨ v = 42 ∨ v = 47 ∨ v = 37
def sgX (v : Int32) : Int32 := xb (v = 40 ∨ v = 41 ∨ v = 59 ∨ v = 44 ∨ v = 60 ∨ v = 62 ∨ v = 61 ∨ v = 43 ∨ v = 45 ∨ v = 42 ∨ v = 47 ∨ v = 37)
def tkK (T : Nat → Nat) (l a : Nat) : Int32 := if l ≤ a then 0 else if pL T l a = true then (if 8 < (wrd T l a).1 - a then 1 else kwm (wrd T l a).2 0 26) else if pD T l a = true then (if 4 < (dig T l a).1 - a then 1 else 3) else if sgX (sb (T a)) = 0 then 1 else sb (T a)
def tkA (T : Nat → Nat) (l a : Nat) : Nat := if l ≤ a then a else if pL T l a = true then (wrd T l a).1 else if pD T l a = true then (dig T l a).1 else a + 1
def tkN (T : Nat → Nat) (l a : Nat) (nu : Int32) : Int32 := if l ≤ a then nu else if pL T l a = true then nu else if pD T l a = true then (dig T l a).2 else nu
def tkS (T : Nat → Nat) (l a : Nat) (na : Int64) : Int64 := if l ≤ a then na else if pL T l a = true then (wrd T l a).2 else na
theorem f_MR_word (hR : 77 < R) (hb : byt T tp) (hl : l ≤ 1600) (hs : sz = nI l) (a : Nat) (ha : a ≤ l) : xcall E xprog (d + 6) 128 [.ref R] (nH (mH H K th sz ea tp nw kp wc sk) R (nI a) kn (nI a) nu na tk fa fp wr cl g q ns) Q = Q (.inl (some (.int (if 8 < (wrd T l a).1 - a then 1 else kwm (wrd T l a).2 0 26))), (nH (mH H K th sz ea tp nw kp wc sk) R (nI (wrd T l a).1) kn (nI a) nu (wrd T l a).2 tk fa fp wr cl g q ns)) := by
  subst hs
  have hw : a ≤ (wrd T l a).1 ∧ (a ≤ l → (wrd T l a).1 ≤ l) := wlP_le 10 a 0
  have q8 : (8 < nI ((wrd T l a).1 - a)) = (8 < (wrd T l a).1 - a) := n_lt (a := 8) (by omega) (by have := hw.2 ha; omega)
  rw [e_MR_word]
  simp only [s_MR_word_0, s_MR_word_1, s_MR_word_2, nQF_R, nQC_R, nw_R, xll_10, xlg_10_0, xlg_10_1, xlg_10_2, xlg_10_3, xlg_10_4, xlg_10_5, xlg_10_6, xlg_10_7, xlg_10_8, xlg_10_9, xlg_10_10, xlg_10_11, xlg_10_12, xls_10_0, xls_10_1, xls_10_2, xls_10_3, xls_10_4, xls_10_5, xls_10_6, xls_10_7, xls_10_8, xls_10_9, xls_10_10, xls_10_11, xls_10_12, not_false_eq_true, Nat.reduceLT, Nat.reduceAdd, true_and, and_true, if_true, if_false, ite_true, ite_false, xnb_0, xnb_1, xnb_b, xk_v, xk_n]
  rw [l_MR_word (d := d + 4) hR hb hl rfl a 10 a 0 (Nat.le_refl _) ha (by omega)]
  change xr E (d + 5) m_MR_word Q (75, [some (.ref R), none], [], (nH (mH H K th sz ea tp nw kp wc sk) R (nI (wrd T l a).1) kn (nI a) nu (wrd T l a).2 tk fa fp wr cl g q ns)) = _
  simp only [s_MR_word_75, s_MR_word_76, s_MR_word_79, s_MR_word_80, s_MR_word_83, s_MR_word_84, s_MR_word_86, s_MR_word_89, s_MR_word_90, s_MR_word_91, s_MR_word_92, nQF_R, nQC_R, xll_10, xlg_10_0, xlg_10_1, xlg_10_2, xlg_10_3, xlg_10_4, xlg_10_5, xlg_10_6, xlg_10_7, xlg_10_8, xlg_10_9, xlg_10_10, xlg_10_11, xlg_10_12, not_false_eq_true, Nat.reduceLT, Nat.reduceAdd, true_and, and_true, if_true, if_false, ite_true, ite_false, xnb_0, xnb_1, xnb_b, xk_v, xk_n, nI_s hw.1, q8]
  by_cases p : 8 < (wrd T l a).1 - a
  · rw [if_pos p, if_pos p]
  · rw [if_neg p, if_neg p]
    exact l_MR_kwm 26 0 rfl
theorem f_MR_token (hR : 77 < R) (hb : byt T tp) (hl : l ≤ 1600) (hs : sz = nI l) (a : Nat) (ha : a ≤ l) : xcall E xprog (d + 7) 127 [.ref R] (nH (mH H K th sz ea tp nw kp wc sk) R (nI a) kn (nI a) nu na tk fa fp wr cl g q ns) Q = Q (.inl (some (.int (tkK T l a))), (nH (mH H K th sz ea tp nw kp wc sk) R (nI (tkA T l a)) kn (nI a) (tkN T l a nu) (tkS T l a na) tk fa fp wr cl g q ns)) := by
  subst hs
  unfold tkK tkA tkN tkS
  rw [e_MR_token]
  by_cases p : l ≤ a
  · simp only [s_MR_token_0, s_MR_token_1, s_MR_token_4, s_MR_token_5, s_MR_token_8, s_MR_token_11, s_MR_token_14, s_MR_token_15, nQF_R, nQC_R, nQF_B, nQC_B, nQl_0, nQf_0, nQl_1, nQf_1, nQl_2, nQf_2, nQl_3, nQf_3, nQl_4, nQf_4, nQl_5, nQf_5, nQl_6, nQf_6, nQl_7, nQf_7, nQl_s, nQf_s, nw_R, nw_B, nw_g0, nw_g1, nw_g2, nw_g3, nw_g4, nw_g5, nw_g6, nw_g7, nw_ns, nQF_M hR, nQC_M hR, nQl_t hR, nQf_t hR, six_0, six_1, six_2, six_3, six_4, six_5, xll_9, xlg_9_0, xlg_9_1, xlg_9_2, xlg_9_3, xlg_9_4, xlg_9_5, xlg_9_6, xlg_9_7, xlg_9_8, xlg_9_9, xlg_9_10, xlg_9_11, xlg_9_12, xlg_9_13, xls_9_0, xls_9_1, xls_9_2, xls_9_3, xls_9_4, xls_9_5, xls_9_6, xls_9_7, xls_9_8, xls_9_9, xls_9_10, xls_9_11, xls_9_12, xls_9_13, xll_10, xlg_10_0, xlg_10_1, xlg_10_2, xlg_10_3, xlg_10_4, xlg_10_5, xlg_10_6, xlg_10_7, xlg_10_8, xlg_10_9, xlg_10_10, xlg_10_11, xlg_10_12, xls_10_0, xls_10_1, xls_10_2, xls_10_3, xls_10_4, xls_10_5, xls_10_6, xls_10_7, xls_10_8, xls_10_9, xls_10_10, xls_10_11, xls_10_12, xll_11, xlg_11_0, xlg_11_1, xlg_11_2, xlg_11_3, xlg_11_4, xlg_11_5, xlg_11_6, xlg_11_7, xlg_11_8, not_false_eq_true, Nat.reduceLT, Nat.reduceAdd, true_and, and_true, if_true, if_false, ite_true, ite_false, xnb_0, xnb_1, xnb_b, xk_v, xk_n, nge p (by omega), p]
  · have pp : a < l := by omega
    by_cases p1 : tL T l a
    · simp only [s_MR_token_0, s_MR_token_1, s_MR_token_4, s_MR_token_5, s_MR_token_8, s_MR_token_11, s_MR_token_14, s_MR_token_15, s_MR_token_16, s_MR_token_17, s_MR_token_18, s_MR_token_21, s_MR_token_24, s_MR_token_27, s_MR_token_28, s_MR_token_31, nQF_R, nQC_R, nQF_B, nQC_B, nQl_0, nQf_0, nQl_1, nQf_1, nQl_2, nQf_2, nQl_3, nQf_3, nQl_4, nQf_4, nQl_5, nQf_5, nQl_6, nQf_6, nQl_7, nQf_7, nQl_s, nQf_s, nw_R, nw_B, nw_g0, nw_g1, nw_g2, nw_g3, nw_g4, nw_g5, nw_g6, nw_g7, nw_ns, nQF_M hR, nQC_M hR, nQl_t hR, nQf_t hR, six_0, six_1, six_2, six_3, six_4, six_5, xll_9, xlg_9_0, xlg_9_1, xlg_9_2, xlg_9_3, xlg_9_4, xlg_9_5, xlg_9_6, xlg_9_7, xlg_9_8, xlg_9_9, xlg_9_10, xlg_9_11, xlg_9_12, xlg_9_13, xls_9_0, xls_9_1, xls_9_2, xls_9_3, xls_9_4, xls_9_5, xls_9_6, xls_9_7, xls_9_8, xls_9_9, xls_9_10, xls_9_11, xls_9_12, xls_9_13, xll_10, xlg_10_0, xlg_10_1, xlg_10_2, xlg_10_3, xlg_10_4, xlg_10_5, xlg_10_6, xlg_10_7, xlg_10_8, xlg_10_9, xlg_10_10, xlg_10_11, xlg_10_12, xls_10_0, xls_10_1, xls_10_2, xls_10_3, xls_10_4, xls_10_5, xls_10_6, xls_10_7, xls_10_8, xls_10_9, xls_10_10, xls_10_11, xls_10_12, xll_11, xlg_11_0, xlg_11_1, xlg_11_2, xlg_11_3, xlg_11_4, xlg_11_5, xlg_11_6, xlg_11_7, xlg_11_8, not_false_eq_true, Nat.reduceLT, Nat.reduceAdd, true_and, and_true, if_true, if_false, ite_true, ite_false, xnb_0, xnb_1, xnb_b, xk_v, xk_n, nlt pp (by omega), p, f_MR_isLetter hR hb hl a (by omega) xb_t p1, k1_0, pL_t p1, f_MR_word hR hb hl rfl a ha]
    · by_cases p2 : tD T l a
      · have hw : a ≤ (dig T l a).1 ∧ (a ≤ l → (dig T l a).1 ≤ l) := dlP_le 6 a 0
        have q8 : (4 < nI ((dig T l a).1 - a)) = (4 < (dig T l a).1 - a) := n_lt (a := 4) (by omega) (by have := hw.2 ha; omega)
        have hl' := l_MR_digits (E := E) (d := d + 5) (Q := Q) (H := H) (K := K) (th := th) (ea := ea) (tp := tp) (nw := nw) (kp := kp) (wc := wc) (sk := sk) (kn := kn) (na := na) (tk := tk) (fa := fa) (fp := fp) (wr := wr) (cl := cl) (g := g) (q := q) (ns := ns) hR hb hl rfl a 6 a 0 (Nat.le_refl _) ha (by omega)
        simp only [s_MR_token_0, s_MR_token_1, s_MR_token_4, s_MR_token_5, s_MR_token_8, s_MR_token_11, s_MR_token_14, s_MR_token_15, s_MR_token_16, s_MR_token_17, s_MR_token_18, s_MR_token_21, s_MR_token_24, s_MR_token_27, s_MR_token_28, s_MR_token_31, s_MR_token_32, s_MR_token_33, s_MR_token_34, s_MR_token_37, s_MR_token_40, s_MR_token_43, s_MR_token_44, s_MR_token_45, nQF_R, nQC_R, nQF_B, nQC_B, nQl_0, nQf_0, nQl_1, nQf_1, nQl_2, nQf_2, nQl_3, nQf_3, nQl_4, nQf_4, nQl_5, nQf_5, nQl_6, nQf_6, nQl_7, nQf_7, nQl_s, nQf_s, nw_R, nw_B, nw_g0, nw_g1, nw_g2, nw_g3, nw_g4, nw_g5, nw_g6, nw_g7, nw_ns, nQF_M hR, nQC_M hR, nQl_t hR, nQf_t hR, six_0, six_1, six_2, six_3, six_4, six_5, xll_9, xlg_9_0, xlg_9_1, xlg_9_2, xlg_9_3, xlg_9_4, xlg_9_5, xlg_9_6, xlg_9_7, xlg_9_8, xlg_9_9, xlg_9_10, xlg_9_11, xlg_9_12, xlg_9_13, xls_9_0, xls_9_1, xls_9_2, xls_9_3, xls_9_4, xls_9_5, xls_9_6, xls_9_7, xls_9_8, xls_9_9, xls_9_10, xls_9_11, xls_9_12, xls_9_13, xll_10, xlg_10_0, xlg_10_1, xlg_10_2, xlg_10_3, xlg_10_4, xlg_10_5, xlg_10_6, xlg_10_7, xlg_10_8, xlg_10_9, xlg_10_10, xlg_10_11, xlg_10_12, xls_10_0, xls_10_1, xls_10_2, xls_10_3, xls_10_4, xls_10_5, xls_10_6, xls_10_7, xls_10_8, xls_10_9, xls_10_10, xls_10_11, xls_10_12, xll_11, xlg_11_0, xlg_11_1, xlg_11_2, xlg_11_3, xlg_11_4, xlg_11_5, xlg_11_6, xlg_11_7, xlg_11_8, not_false_eq_true, Nat.reduceLT, Nat.reduceAdd, true_and, and_true, if_true, if_false, ite_true, ite_false, xnb_0, xnb_1, xnb_b, xk_v, xk_n, nlt pp (by omega), p, f_MR_isLetter hR hb hl a (by omega) rfl, xb_f p1, f_MR_isDigit hR hb hl a (by omega) rfl, xb_t p2, k1_0, pL_f p1, pD_t p2, Bool.false_eq_true]
        refine hl'.trans ?_
        change xr E (d + 6) m_MR_token Q (112, [some (.ref R), none], [], (nH (mH H K th sz ea tp nw kp wc sk) R (nI (dig T l a).1) kn (nI a) (dig T l a).2 na tk fa fp wr cl g q ns)) = _
        simp only [s_MR_token_112, s_MR_token_113, s_MR_token_116, s_MR_token_117, s_MR_token_120, s_MR_token_121, s_MR_token_122, s_MR_token_125, s_MR_token_126, s_MR_token_129, s_MR_token_130, nQF_R, nQC_R, xll_10, xlg_10_0, xlg_10_1, xlg_10_2, xlg_10_3, xlg_10_4, xlg_10_5, xlg_10_6, xlg_10_7, xlg_10_8, xlg_10_9, xlg_10_10, xlg_10_11, xlg_10_12, not_false_eq_true, Nat.reduceLT, Nat.reduceAdd, true_and, and_true, if_true, if_false, ite_true, ite_false, xnb_0, xnb_1, xnb_b, xk_v, xk_n, nI_s hw.1, q8]
        by_cases r : 4 < (dig T l a).1 - a
        · simp only [r, if_true]
        · simp only [r, if_false]
      · simp only [s_MR_token_0, s_MR_token_1, s_MR_token_4, s_MR_token_5, s_MR_token_8, s_MR_token_11, s_MR_token_14, s_MR_token_15, s_MR_token_16, s_MR_token_17, s_MR_token_18, s_MR_token_21, s_MR_token_24, s_MR_token_27, s_MR_token_28, s_MR_token_31, s_MR_token_32, s_MR_token_33, s_MR_token_34, s_MR_token_37, s_MR_token_40, s_MR_token_43, s_MR_token_44, s_MR_token_45, s_MR_token_131, s_MR_token_132, s_MR_token_135, s_MR_token_138, s_MR_token_139, s_MR_token_142, s_MR_token_143, s_MR_token_144, s_MR_token_145, s_MR_token_146, s_MR_token_149, s_MR_token_150, s_MR_token_151, s_MR_token_154, s_MR_token_155, s_MR_token_156, s_MR_token_159, s_MR_token_162, s_MR_token_163, s_MR_token_166, s_MR_token_167, nQF_R, nQC_R, nQF_B, nQC_B, nQl_0, nQf_0, nQl_1, nQf_1, nQl_2, nQf_2, nQl_3, nQf_3, nQl_4, nQf_4, nQl_5, nQf_5, nQl_6, nQf_6, nQl_7, nQf_7, nQl_s, nQf_s, nw_R, nw_B, nw_g0, nw_g1, nw_g2, nw_g3, nw_g4, nw_g5, nw_g6, nw_g7, nw_ns, nQF_M hR, nQC_M hR, nQl_t hR, nQf_t hR, six_0, six_1, six_2, six_3, six_4, six_5, xll_9, xlg_9_0, xlg_9_1, xlg_9_2, xlg_9_3, xlg_9_4, xlg_9_5, xlg_9_6, xlg_9_7, xlg_9_8, xlg_9_9, xlg_9_10, xlg_9_11, xlg_9_12, xlg_9_13, xls_9_0, xls_9_1, xls_9_2, xls_9_3, xls_9_4, xls_9_5, xls_9_6, xls_9_7, xls_9_8, xls_9_9, xls_9_10, xls_9_11, xls_9_12, xls_9_13, xll_10, xlg_10_0, xlg_10_1, xlg_10_2, xlg_10_3, xlg_10_4, xlg_10_5, xlg_10_6, xlg_10_7, xlg_10_8, xlg_10_9, xlg_10_10, xlg_10_11, xlg_10_12, xls_10_0, xls_10_1, xls_10_2, xls_10_3, xls_10_4, xls_10_5, xls_10_6, xls_10_7, xls_10_8, xls_10_9, xls_10_10, xls_10_11, xls_10_12, xll_11, xlg_11_0, xlg_11_1, xlg_11_2, xlg_11_3, xlg_11_4, xlg_11_5, xlg_11_6, xlg_11_7, xlg_11_8, not_false_eq_true, Nat.reduceLT, Nat.reduceAdd, true_and, and_true, if_true, if_false, ite_true, ite_false, xnb_0, xnb_1, xnb_b, xk_v, xk_n, nlt pp (by omega), p, f_MR_isLetter hR hb hl a (by omega) rfl, xb_f p1, f_MR_isDigit hR hb hl a (by omega) rfl, xb_f p2, k1_0, pL_f p1, pD_f p2, Bool.false_eq_true, nvp (show a < 1600 by omega) (by omega), ncl (show a < 2147483648 by omega), (hb a).2, nI_1, f_MR_isSign]
        unfold sgX
        by_cases r : xb (sb (T a) = 40 ∨ sb (T a) = 41 ∨ sb (T a) = 59 ∨ sb (T a) = 44 ∨ sb (T a) = 60 ∨ sb (T a) = 62 ∨ sb (T a) = 61 ∨ sb (T a) = 43 ∨ sb (T a) = 45 ∨ sb (T a) = 42 ∨ sb (T a) = 47 ∨ sb (T a) = 37) = 0
        · rw [if_pos r, if_pos r]
        · rw [if_neg r, if_neg r]
/-- the kind that next notes, i tokens behind -/
def nxK (T : Nat → Nat) (l a i : Nat) : Int32 := if ¬ tkK T l a = 0 ∧ i = 400 then 1 else tkK T l a
theorem f_MR_next (hR : 77 < R) (hb : byt T tp) (hl : l ≤ 1600) (hs : sz = nI l) (a i : Nat) (ha : a ≤ l) (hi : i < 1000) : xcall E xprog (d + 8) 125 [.ref R] (nH (mH H K th sz ea tp nw kp wc sk) R (nI a) kn fr nu na (nI i) fa fp wr cl g q ns) Q =
    Q (.inl none, (nH (mH H K th sz ea tp nw kp wc sk) R (nI (tkA T l (blk T l a))) (nxK T l (blk T l a) i) (nI (blk T l a)) (tkN T l (blk T l a) nu) (tkS T l (blk T l a) na) (nI (i + 1)) fa fp wr cl g q ns)) := by
  subst hs
  have hbl : a ≤ blk T l a ∧ blk T l a ≤ l := blk_le ha
  have q4 : (nI i = 400) = (i = 400) := n_eq (b := 400) (by omega) (by omega)
  rw [e_MR_next, l_MR_next hR hb hl rfl (l - a) a (by omega)]
  change xr E (d + 7) m_MR_next Q (61, [some (.ref R)], [], (nH (mH H K th sz ea tp nw kp wc sk) R (nI (blk T l a)) kn fr nu na (nI i) fa fp wr cl g q ns)) = _
  simp only [s_MR_next_61, s_MR_next_62, s_MR_next_63, s_MR_next_66, s_MR_next_69, s_MR_next_70, s_MR_next_71, s_MR_next_74, s_MR_next_77, s_MR_next_78, s_MR_next_81, s_MR_next_84, s_MR_next_85, s_MR_next_88, s_MR_next_91, s_MR_next_94, s_MR_next_95, s_MR_next_96, s_MR_next_99, s_MR_next_100, s_MR_next_101, s_MR_next_104, s_MR_next_105, s_MR_next_106, s_MR_next_109, nQF_R, nQC_R, nw_R, xll_10, xlg_10_0, xlg_10_1, xlg_10_2, xlg_10_3, xlg_10_4, xlg_10_5, xlg_10_6, xlg_10_7, xlg_10_8, xlg_10_9, xlg_10_10, xlg_10_11, xlg_10_12, xls_10_0, xls_10_1, xls_10_2, xls_10_3, xls_10_4, xls_10_5, xls_10_6, xls_10_7, xls_10_8, xls_10_9, xls_10_10, xls_10_11, xls_10_12, not_false_eq_true, Nat.reduceLT, Nat.reduceAdd, true_and, and_true, if_true, if_false, ite_true, ite_false, xnb_0, xnb_1, xnb_b, xk_v, xk_n, f_MR_token hR hb hl rfl (blk T l a) hbl.2, q4, nI_1, nxK]
  by_cases p : tkK T l (blk T l a) = 0
  · simp only [p, not_true_eq_false, false_and, if_false, if_true]
  · by_cases r : i = 400
    · simp only [p, r, not_false_eq_true, and_self, if_true, if_false]
    · simp only [p, r, and_false, if_false]
end MTOK
