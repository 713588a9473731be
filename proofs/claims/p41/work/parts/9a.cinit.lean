/-! ===== the class's objects are made ===== -/
section CINIT
variable {E : xE} {d : Nat} {Q : xR → Prop} {H Y : xH} {R : Nat}
theorem xnc_s {H : xH} {fs : List Value} {ci k : Nat} (a : Nat) (h : a = H.2.1) : xcl (xnew H (.inr (ci, fs)) k) a = ci := xc_of (by rw [xnew_g, if_pos h])
theorem xnc_o {H : xH} {c : xC} {k : Nat} (a : Nat) (h : ¬ a = H.2.1) : xcl (xnew H c k) a = xcl H a := by
  unfold xcl
  rw [xnew_g, if_neg h]
theorem xdef_0 : xdef 0 = [.null, .null, .null, .null, .null, .null, .null, .null, .null, .null, .null, .int 0, .int 0, .int 0] := rfl
theorem xdef_1 : xdef 1 = [.null, .null, .null, .null, .null, .null, .null, .null, .null, .null, .null, .null, .int 0, .int 0, .int 0, .int 0, .int 0] := rfl
theorem xdef_2 : xdef 2 = [.null, .null, .int 0, .int 0, .int 0, .int 0] := rfl
theorem xdef_3 : xdef 3 = [.null] := rfl
theorem xdef_4 : xdef 4 = [.null, .null, .int 0] := rfl
theorem xdef_5 : xdef 5 = [.null, .null, .int 0] := rfl
theorem xdef_6 : xdef 6 = [.null, .int 0] := rfl
theorem xdef_7 : xdef 7 = [.null, .null, .null, .null, .null, .int 0, .int 0] := rfl
theorem xdef_8 : xdef 8 = [.null, .null, .null, .null, .null, .null, .int 0] := rfl
def n6 (H : xH) : xH := xnew H (xarI 6 (fun _ => 0)) 6
def iTa (H : xH) (R : Nat) : xH := xnew (xnew H (.inr (6, [.ref (R + 1), .int 0])) 2) (xarB 1600 (fun _ => 0)) 1600
theorem f_Ta_init (hR : H.2.1 = R) : xcall E xprog (d + 1) 49 [.ref R] (xnew H (.inr (6, xdef 6)) 2) Q = Q (.inl none, iTa H R) := by
  rw [e_Ta_init]
  subst hR
  simp (disch := (first | omega | (simp only [xnew_n, xset_2]; done) | (simp only [xnew_n, xset_2]; omega))) only [s_Ta_init_0, s_Ta_init_1, s_Ta_init_4, s_Ta_init_5, s_Ta_init_8, s_Ta_init_10, s_Ta_init_13, s_Ta_init_14, s_Ta_init_15, s_Ta_init_18, xdef_6, xnw_s, xnw_o, xnf_s, xnf_o, xnc_s, xnc_o, xnew_n, xset_2, not_false_eq_true, Nat.reduceLT, Nat.reduceAdd, true_and, and_true, if_true, if_false, ite_true, ite_false, xnb_0, xnb_1, xnb_b, xk_v, xk_n, Nat.add_assoc, xll_6, xlg_6_0, xlg_6_1, xls_6_0, xls_6_1, show (¬ (1600 : Int32) < 0 ∧ 1600 * 1 ≤ 536870912) = True from eq_true (by decide), show (1600 : Int32).toNatClampNeg = 1600 from by decide, iTa]
def iRu (H : xH) (R : Nat) : xH := xnew (xnew (xnew H (.inr (5, [.ref (R + 1), .ref (R + 2), .int 0])) 3) (xarI 400 (fun _ => 0)) 400) (xarI 400 (fun _ => 0)) 400
theorem f_Ru_init (hR : H.2.1 = R) : xcall E xprog (d + 1) 47 [.ref R] (xnew H (.inr (5, xdef 5)) 3) Q = Q (.inl none, iRu H R) := by
  rw [e_Ru_init]
  subst hR
  simp (disch := (first | omega | (simp only [xnew_n, xset_2]; done) | (simp only [xnew_n, xset_2]; omega))) only [s_Ru_init_0, s_Ru_init_1, s_Ru_init_4, s_Ru_init_5, s_Ru_init_8, s_Ru_init_10, s_Ru_init_13, s_Ru_init_14, s_Ru_init_17, s_Ru_init_19, s_Ru_init_22, s_Ru_init_23, s_Ru_init_24, s_Ru_init_27, xdef_5, xnw_s, xnw_o, xnf_s, xnf_o, xnc_s, xnc_o, xnew_n, xset_2, not_false_eq_true, Nat.reduceLT, Nat.reduceAdd, true_and, and_true, if_true, if_false, ite_true, ite_false, xnb_0, xnb_1, xnb_b, xk_v, xk_n, Nat.add_assoc, xll_5, xlg_5_0, xlg_5_1, xlg_5_2, xls_5_0, xls_5_1, xls_5_2, show (¬ (400 : Int32) < 0 ∧ 400 * 4 ≤ 536870912) = True from eq_true (by decide), show (400 : Int32).toNatClampNeg = 400 from by decide, iRu]
def iRT (H : xH) (R : Nat) : xH := xnew (xnew (xnew H (.inr (4, [.ref (R + 1), .ref (R + 2), .int 0])) 3) (xarI 10 (fun _ => 0)) 10) (xarI 400 (fun _ => 0)) 400
theorem f_RT_init (hR : H.2.1 = R) : xcall E xprog (d + 1) 41 [.ref R] (xnew H (.inr (4, xdef 4)) 3) Q = Q (.inl none, iRT H R) := by
  rw [e_RT_init]
  subst hR
  simp (disch := (first | omega | (simp only [xnew_n, xset_2]; done) | (simp only [xnew_n, xset_2]; omega))) only [s_RT_init_0, s_RT_init_1, s_RT_init_4, s_RT_init_5, s_RT_init_7, s_RT_init_9, s_RT_init_12, s_RT_init_13, s_RT_init_16, s_RT_init_18, s_RT_init_21, s_RT_init_22, s_RT_init_23, s_RT_init_26, xdef_4, xnw_s, xnw_o, xnf_s, xnf_o, xnc_s, xnc_o, xnew_n, xset_2, not_false_eq_true, Nat.reduceLT, Nat.reduceAdd, true_and, and_true, if_true, if_false, ite_true, ite_false, xnb_0, xnb_1, xnb_b, xk_v, xk_n, Nat.add_assoc, xll_4, xlg_4_0, xlg_4_1, xlg_4_2, xls_4_0, xls_4_1, xls_4_2, show (¬ (400 : Int32) < 0 ∧ 400 * 4 ≤ 536870912) = True from eq_true (by decide), show (400 : Int32).toNatClampNeg = 400 from by decide, show (¬ (10 : Int32) < 0 ∧ 10 * 4 ≤ 536870912) = True from eq_true (by decide), show (10 : Int32).toNatClampNeg = 10 from by decide, iRT]
theorem f_RR_init (hR : H.2.1 = R) (t : Nat) : xcall E xprog (d + 1) 36 [.ref R, .ref t] (xnew H (.inr (3, xdef 3)) 1) Q = Q (.inl none, xnew H (.inr (3, [.ref t])) 1) := by
  rw [e_RR_init]
  subst hR
  simp (disch := (first | omega | (simp only [xnew_n, xset_2]; done) | (simp only [xnew_n, xset_2]; omega))) only [s_RR_init_0, s_RR_init_1, s_RR_init_4, s_RR_init_5, s_RR_init_6, s_RR_init_9, xdef_3, xnw_s, xnw_o, xnf_s, xnf_o, xnc_s, xnc_o, xnew_n, xset_2, not_false_eq_true, Nat.reduceLT, Nat.reduceAdd, true_and, and_true, if_true, if_false, ite_true, ite_false, xnb_0, xnb_1, xnb_b, xk_v, xk_n, Nat.add_assoc, xll_3, xlg_3_0, xls_3_0]
def iBy (H : xH) (R b t : Nat) : xH := n6 (n6 (n6 (n6 (n6 (n6 (n6 (n6 (n6 (xnew H (.inr (0, [.ref t, .ref (R + 1), .ref (R + 2), .ref (R + 3), .ref (R + 4), .ref (R + 5), .ref (R + 6), .ref (R + 7), .ref (R + 8), .ref (R + 9), .ref b, .int 0, .int 0, .int 0])) 14)))))))))
theorem f_Bay_init (hR : H.2.1 = R) (b t : Nat) : xcall E xprog (d + 1) 0 [.ref R, .ref b, .ref t] (xnew H (.inr (0, xdef 0)) 14) Q = Q (.inl none, iBy H R b t) := by
  rw [e_Bay_init]
  subst hR
  simp (disch := (first | omega | (simp only [xnew_n, xset_2]; done) | (simp only [xnew_n, xset_2]; omega))) only [s_Bay_init_0, s_Bay_init_1, s_Bay_init_4, s_Bay_init_5, s_Bay_init_6, s_Bay_init_9, s_Bay_init_10, s_Bay_init_11, s_Bay_init_14, s_Bay_init_15, s_Bay_init_17, s_Bay_init_19, s_Bay_init_22, s_Bay_init_23, s_Bay_init_25, s_Bay_init_27, s_Bay_init_30, s_Bay_init_31, s_Bay_init_33, s_Bay_init_35, s_Bay_init_38, s_Bay_init_39, s_Bay_init_41, s_Bay_init_43, s_Bay_init_46, s_Bay_init_47, s_Bay_init_49, s_Bay_init_51, s_Bay_init_54, s_Bay_init_55, s_Bay_init_57, s_Bay_init_59, s_Bay_init_62, s_Bay_init_63, s_Bay_init_65, s_Bay_init_67, s_Bay_init_70, s_Bay_init_71, s_Bay_init_73, s_Bay_init_75, s_Bay_init_78, s_Bay_init_79, s_Bay_init_81, s_Bay_init_83, s_Bay_init_86, xdef_0, xnw_s, xnw_o, xnf_s, xnf_o, xnc_s, xnc_o, xnew_n, xset_2, not_false_eq_true, Nat.reduceLT, Nat.reduceAdd, true_and, and_true, if_true, if_false, ite_true, ite_false, xnb_0, xnb_1, xnb_b, xk_v, xk_n, Nat.add_assoc, xll_0, xlg_0_0, xlg_0_1, xlg_0_2, xlg_0_3, xlg_0_4, xlg_0_5, xlg_0_6, xlg_0_7, xlg_0_8, xlg_0_9, xlg_0_10, xlg_0_11, xlg_0_12, xlg_0_13, xls_0_0, xls_0_1, xls_0_2, xls_0_3, xls_0_4, xls_0_5, xls_0_6, xls_0_7, xls_0_8, xls_0_9, xls_0_10, xls_0_11, xls_0_12, xls_0_13, show (¬ (6 : Int32) < 0 ∧ 6 * 4 ≤ 536870912) = True from eq_true (by decide), show (6 : Int32).toNatClampNeg = 6 from by decide, iBy, n6]
def iBk (H : xH) (R : Nat) : xH := n6 (n6 (n6 (n6 (n6 (xnew (n6 (n6 (n6 (n6 (n6 (iRu (xnew H (.inr (1, [.ref (R + 1), .ref (R + 4), .ref (R + 5), .ref (R + 6), .ref (R + 7), .ref (R + 8), .ref (R + 9), .ref (R + 10), .ref (R + 11), .ref (R + 12), .ref (R + 13), .ref (R + 14), .int 6, .int 6, .int 0, .int 0, .int 0])) 17) (R + 1))))))) (xarJ 6 (fun _ => 0)) 6)))))
theorem f_Bk_init (hR : H.2.1 = R) : xcall E xprog (d + 2) 18 [.ref R] (xnew H (.inr (1, xdef 1)) 17) Q = Q (.inl none, iBk H R) := by
  rw [e_Bk_init]
  subst hR
  simp (disch := (first | omega | (simp only [xnew_n, xset_2]; done) | (simp only [xnew_n, xset_2]; omega))) only [s_Bk_init_0, s_Bk_init_1, s_Bk_init_4, s_Bk_init_5, s_Bk_init_8, s_Bk_init_9, s_Bk_init_12, s_Bk_init_15, s_Bk_init_16, s_Bk_init_18, s_Bk_init_20, s_Bk_init_23, s_Bk_init_24, s_Bk_init_26, s_Bk_init_28, s_Bk_init_31, s_Bk_init_32, s_Bk_init_34, s_Bk_init_36, s_Bk_init_39, s_Bk_init_40, s_Bk_init_42, s_Bk_init_44, s_Bk_init_47, s_Bk_init_48, s_Bk_init_50, s_Bk_init_52, s_Bk_init_55, s_Bk_init_56, s_Bk_init_58, s_Bk_init_60, s_Bk_init_63, s_Bk_init_64, s_Bk_init_66, s_Bk_init_68, s_Bk_init_71, s_Bk_init_72, s_Bk_init_74, s_Bk_init_76, s_Bk_init_79, s_Bk_init_80, s_Bk_init_82, s_Bk_init_84, s_Bk_init_87, s_Bk_init_88, s_Bk_init_90, s_Bk_init_92, s_Bk_init_95, s_Bk_init_96, s_Bk_init_98, s_Bk_init_100, s_Bk_init_103, s_Bk_init_104, s_Bk_init_106, s_Bk_init_109, s_Bk_init_110, s_Bk_init_112, s_Bk_init_115, xdef_1, f_Ru_init (H := xnew H _ 17) (R := H.2.1 + 1) rfl, iRu, xnw_s, xnw_o, xnf_s, xnf_o, xnc_s, xnc_o, xnew_n, xset_2, not_false_eq_true, Nat.reduceLT, Nat.reduceAdd, true_and, and_true, if_true, if_false, ite_true, ite_false, xnb_0, xnb_1, xnb_b, xk_v, xk_n, Nat.add_assoc, xll_1, xlg_1_0, xlg_1_1, xlg_1_2, xlg_1_3, xlg_1_4, xlg_1_5, xlg_1_6, xlg_1_7, xlg_1_8, xlg_1_9, xlg_1_10, xlg_1_11, xlg_1_12, xlg_1_13, xlg_1_14, xlg_1_15, xlg_1_16, xls_1_0, xls_1_1, xls_1_2, xls_1_3, xls_1_4, xls_1_5, xls_1_6, xls_1_7, xls_1_8, xls_1_9, xls_1_10, xls_1_11, xls_1_12, xls_1_13, xls_1_14, xls_1_15, xls_1_16, show (¬ (6 : Int32) < 0 ∧ 6 * 4 ≤ 536870912) = True from eq_true (by decide), show (¬ (6 : Int32) < 0 ∧ 6 * 8 ≤ 536870912) = True from eq_true (by decide), show (6 : Int32).toNatClampNeg = 6 from by decide, iBk, n6]
end CINIT
