/-! ===== the model's new reader and book ===== -/
section MINIT
theorem xnw_s {H : xH} {c c' : xC} {k : Nat} (a : Nat) (h : a = H.2.1) : xset (xnew H c k) a c' = xnew H c' k := by
  subst h
  unfold xset xnew
  refine Prod.ext (funext fun n => ?_) rfl
  dsimp only [xup]
  split <;> rfl
theorem xnw_o {H : xH} {c c' : xC} {k : Nat} (a : Nat) (h : ¬ a = H.2.1) : xset (xnew H c k) a c' = xnew (xset H a c') c k := by
  unfold xset xnew
  refine Prod.ext (funext fun n => ?_) rfl
  dsimp only [xup]
  by_cases p : n = a
  · rw [if_pos p, if_neg (by omega), if_pos p]
  · rw [if_neg p, if_neg p]
theorem xnf_s {H : xH} {fs : List Value} {ci k : Nat} (a : Nat) (h : a = H.2.1) : xfls (xnew H (.inr (ci, fs)) k) a ci = fs := xf_of (by rw [xnew_g, if_pos h])
theorem xnf_o {H : xH} {c : xC} {ci k : Nat} (a : Nat) (h : ¬ a = H.2.1) : xfls (xnew H c k) a ci = xfls H a ci := by
  unfold xfls
  rw [xnew_g, if_neg h]
theorem xdef_9 : xdef 9 = [.int 0, .int 0, .int 0, .int 0, .int 0, .null, .null, .null, .null, .null, .null, .null, .null, .int 0] := rfl
theorem xdef_10 : xdef 10 = [.null, .null, .int 0, .int 0, .int 0, .int 0, .long 0, .int 0, .int 0, .int 0, .int 0, .int 0, .null] := rfl
theorem ln_7 : (¬ (7 : Int32) < 0 ∧ 7 * 4 ≤ 536870912) = True := eq_true (by decide)
theorem ln_7l : (¬ (7 : Int32) < 0 ∧ 7 * 8 ≤ 536870912) = True := eq_true (by decide)
theorem ln_8 : (¬ (8 : Int32) < 0 ∧ 8 * 4 ≤ 536870912) = True := eq_true (by decide)
theorem ln_800 : (¬ (800 : Int32) < 0 ∧ 800 * 4 ≤ 536870912) = True := eq_true (by decide)
theorem tc_7 : (7 : Int32).toNatClampNeg = 7 := by decide
theorem tc_8 : (8 : Int32).toNatClampNeg = 8 := by decide
theorem tc_800 : (800 : Int32).toNatClampNeg = 800 := by decide
def mb8 (H : xH) : xH := xnew (xnew (xnew (xnew (xnew (xnew (xnew (xnew H (xarI 7 (fun _ => 0)) 7) (xarI 7 (fun _ => 0)) 7) (xarI 7 (fun _ => 0)) 7) (xarI 7 (fun _ => 0)) 7) (xarI 7 (fun _ => 0)) 7) (xarI 7 (fun _ => 0)) 7) (xarI 8 (fun _ => 0)) 8) (xarI 800 (fun _ => 0)) 800
def mbO (R : Nat) : List Value := [.int 6, .int 6, .int 0, .int 0, .int 0, .ref R, .ref (R + 1), .ref (R + 2), .ref (R + 3), .ref (R + 4), .ref (R + 5), .ref (R + 6), .ref (R + 7), .int 0]
variable {E : xE} {d : Nat} {Q : xR → Prop} {H : xH}
theorem f_MB_init {R : Nat} (hR : H.2.1 = R) : xcall E xprog (d + 1) 116 [.ref R] (xnew H (.inr (9, xdef 9)) 14) Q = Q (.inl none, mb8 (xnew H (.inr (9, mbO (R + 1))) 14)) := by
  rw [e_MB_init]
  subst hR
  simp (disch := (first | omega | (simp only [xnew_n, xset_2]; done) | (simp only [xnew_n, xset_2]; omega))) only [s_MB_init_0, s_MB_init_1, s_MB_init_4, s_MB_init_5, s_MB_init_7, s_MB_init_10, s_MB_init_11, s_MB_init_13, s_MB_init_16, s_MB_init_17, s_MB_init_19, s_MB_init_21, s_MB_init_24, s_MB_init_25, s_MB_init_27, s_MB_init_29, s_MB_init_32, s_MB_init_33, s_MB_init_35, s_MB_init_37, s_MB_init_40, s_MB_init_41, s_MB_init_43, s_MB_init_45, s_MB_init_48, s_MB_init_49, s_MB_init_51, s_MB_init_53, s_MB_init_56, s_MB_init_57, s_MB_init_59, s_MB_init_61, s_MB_init_64, s_MB_init_65, s_MB_init_67, s_MB_init_69, s_MB_init_72, s_MB_init_73, s_MB_init_76, s_MB_init_78, s_MB_init_81, xdef_9, xnw_s, xnw_o, xnf_s, xnf_o, xnew_n, xset_2, xll_9, xlg_9_0, xlg_9_1, xlg_9_2, xlg_9_3, xlg_9_4, xlg_9_5, xlg_9_6, xlg_9_7, xlg_9_8, xlg_9_9, xlg_9_10, xlg_9_11, xlg_9_12, xlg_9_13, xls_9_0, xls_9_1, xls_9_2, xls_9_3, xls_9_4, xls_9_5, xls_9_6, xls_9_7, xls_9_8, xls_9_9, xls_9_10, xls_9_11, xls_9_12, xls_9_13, ln_7, ln_8, ln_800, tc_7, tc_8, tc_800, not_false_eq_true, Nat.reduceLT, Nat.reduceAdd, true_and, and_true, if_true, if_false, ite_true, ite_false, xnb_0, xnb_1, xnb_b, xk_v, xk_n, mb8, mbO, Nat.add_assoc]
def mrO (R : Nat) : List Value := [.ref (R + 1), .ref (R + 10), .int 0, .int 0, .int 0, .int 0, .long 0, .int 0, .int 0, .int (-1), .int (-1), .int 0, .ref 63]
theorem f_MR_init {R : Nat} (hR : H.2.1 = R) : xcall E xprog (d + 2) 120 [.ref R, .ref 63] (xnew H (.inr (10, xdef 10)) 13) Q = Q (.inl none, xnew (mb8 (xnew (xnew H (.inr (10, mrO R)) 13) (.inr (9, mbO (R + 2))) 14)) (xarJ 7 (fun _ => 0)) 7) := by
  rw [e_MR_init]
  subst hR
  simp (disch := (first | omega | (simp only [xnew_n, xset_2]; done) | (simp only [xnew_n, xset_2]; omega))) only [s_MR_init_0, s_MR_init_1, s_MR_init_2, s_MR_init_5, s_MR_init_6, s_MR_init_9, s_MR_init_10, s_MR_init_13, s_MR_init_14, s_MR_init_17, s_MR_init_20, s_MR_init_21, s_MR_init_23, s_MR_init_25, s_MR_init_28, s_MR_init_29, s_MR_init_30, s_MR_init_33, s_MR_init_34, s_MR_init_35, s_MR_init_38, f_MB_init (H := xnew H _ 13) (R := H.2.1 + 1) rfl, xdef_10, xnw_s, xnw_o, xnf_s, xnf_o, xnew_n, xset_2, xll_10, xlg_10_0, xlg_10_1, xlg_10_2, xlg_10_3, xlg_10_4, xlg_10_5, xlg_10_6, xlg_10_7, xlg_10_8, xlg_10_9, xlg_10_10, xlg_10_11, xlg_10_12, xls_10_0, xls_10_1, xls_10_2, xls_10_3, xls_10_4, xls_10_5, xls_10_6, xls_10_7, xls_10_8, xls_10_9, xls_10_10, xls_10_11, xls_10_12, ln_7l, tc_7, not_false_eq_true, Nat.reduceLT, Nat.reduceAdd, true_and, and_true, if_true, if_false, ite_true, ite_false, xnb_0, xnb_1, xnb_b, xk_v, xk_n, mb8, mrO, Nat.add_assoc]
end MINIT
