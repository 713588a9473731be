/-! ===== the class's book and bay: what is only read ===== -/
section BAY1
variable {E : xE} {d : Nat} {Q : xR → Prop} {H : xH} {K B : Nat} {b : Nat → Nat → Int32} {nm : Nat → Int64} {s : Nat → Int32} {a : Nat → Nat → Int32} {t : Nat → Int32}
theorem f_Bk_hasCell (hB : kB H K b nm s) (x y : Int32) :
    xcall E xprog (d + 1) 23 [.ref K, .int x, .int y] H Q = Q (.inl (some (.int (xb (¬ x < 0 ∧ x < s 0 ∧ ¬ y < 0 ∧ y < s 1)))), H) := by
  obtain ⟨b00, b01, b02, b03, b04, b05, b06, b07, b08, b09, b10, b11, b12, b13, b14⟩ := id hB
  rw [e_Bk_hasCell]
  simp only [s_Bk_hasCell_0, s_Bk_hasCell_1, s_Bk_hasCell_4, s_Bk_hasCell_5, s_Bk_hasCell_6, s_Bk_hasCell_9, s_Bk_hasCell_12, s_Bk_hasCell_13, s_Bk_hasCell_16, s_Bk_hasCell_17, s_Bk_hasCell_18, s_Bk_hasCell_21, s_Bk_hasCell_24, s_Bk_hasCell_25, s_Bk_hasCell_28, s_Bk_hasCell_29, xf_of b00, xf_of b01, xc_of b00, xc_of b01, xIl_of b02, xIf_of b02, xIl_of b03, xIf_of b03, xIl_of b04, xIf_of b04, xIl_of b05, xIf_of b05, xIl_of b06, xIf_of b06, xIl_of b07, xIf_of b07, xIl_of b08, xIf_of b08, xIl_of b10, xIf_of b10, xIl_of b11, xIf_of b11, xIl_of b12, xIf_of b12, xIl_of b13, xIf_of b13, xIl_of b14, xIf_of b14, xJl_of b09, xJf_of b09, xll_1, xlg_1_0, xlg_1_1, xlg_1_2, xlg_1_3, xlg_1_4, xlg_1_5, xlg_1_6, xlg_1_7, xlg_1_8, xlg_1_9, xlg_1_10, xlg_1_11, xlg_1_12, xlg_1_13, xlg_1_14, xlg_1_15, xlg_1_16, xll_5, xlg_5_0, xlg_5_1, xlg_5_2, not_false_eq_true, Nat.reduceLT, Nat.reduceAdd, true_and, and_true, if_true, if_false, ite_true, ite_false, xnb_0, xnb_1, xnb_b, xk_v, xk_n]
  repeat' split
  all_goals simp [xb, *]
theorem l_Bk_kettleAt (hB : kB H K b nm s) (x y : Int32) (nk : Nat) (hn : s 2 = nI nk) (hk : nk ≤ 6) : ∀ m i, i + m = nk →
    xr E d m_Bk_kettleAt Q (2, [some (.ref K), some (.int x), some (.int y), some (.int (nI i))], [], H) = Q (.inl (some (.int (kAt (b 2) (b 3) x y i m))), H) := by
  obtain ⟨b00, b01, b02, b03, b04, b05, b06, b07, b08, b09, b10, b11, b12, b13, b14⟩ := id hB
  intro m
  induction m with
  | zero =>
    intro i hi
    rw [s_Bk_kettleAt_2]
    simp only [s_Bk_kettleAt_0, s_Bk_kettleAt_1, s_Bk_kettleAt_3, s_Bk_kettleAt_4, s_Bk_kettleAt_7, s_Bk_kettleAt_10, s_Bk_kettleAt_11, s_Bk_kettleAt_14, s_Bk_kettleAt_15, s_Bk_kettleAt_16, s_Bk_kettleAt_17, s_Bk_kettleAt_20, s_Bk_kettleAt_21, s_Bk_kettleAt_24, s_Bk_kettleAt_25, s_Bk_kettleAt_26, s_Bk_kettleAt_27, s_Bk_kettleAt_30, s_Bk_kettleAt_31, s_Bk_kettleAt_32, s_Bk_kettleAt_35, s_Bk_kettleAt_38, s_Bk_kettleAt_39, xf_of b00, xf_of b01, xc_of b00, xc_of b01, xIl_of b02, xIf_of b02, xIl_of b03, xIf_of b03, xIl_of b04, xIf_of b04, xIl_of b05, xIf_of b05, xIl_of b06, xIf_of b06, xIl_of b07, xIf_of b07, xIl_of b08, xIf_of b08, xIl_of b10, xIf_of b10, xIl_of b11, xIf_of b11, xIl_of b12, xIf_of b12, xIl_of b13, xIf_of b13, xIl_of b14, xIf_of b14, xJl_of b09, xJf_of b09, xll_1, xlg_1_0, xlg_1_1, xlg_1_2, xlg_1_3, xlg_1_4, xlg_1_5, xlg_1_6, xlg_1_7, xlg_1_8, xlg_1_9, xlg_1_10, xlg_1_11, xlg_1_12, xlg_1_13, xlg_1_14, xlg_1_15, xlg_1_16, xll_5, xlg_5_0, xlg_5_1, xlg_5_2, not_false_eq_true, Nat.reduceLT, Nat.reduceAdd, true_and, and_true, if_true, if_false, ite_true, ite_false, xnb_0, xnb_1, xnb_b, xk_v, xk_n, hn, nge (show nk ≤ i by omega) (by omega), kAt]
  | succ m ih =>
    intro i hi
    rw [s_Bk_kettleAt_2]
    simp only [s_Bk_kettleAt_0, s_Bk_kettleAt_1, s_Bk_kettleAt_3, s_Bk_kettleAt_4, s_Bk_kettleAt_7, s_Bk_kettleAt_10, s_Bk_kettleAt_11, s_Bk_kettleAt_14, s_Bk_kettleAt_15, s_Bk_kettleAt_16, s_Bk_kettleAt_17, s_Bk_kettleAt_20, s_Bk_kettleAt_21, s_Bk_kettleAt_24, s_Bk_kettleAt_25, s_Bk_kettleAt_26, s_Bk_kettleAt_27, s_Bk_kettleAt_30, s_Bk_kettleAt_31, s_Bk_kettleAt_32, s_Bk_kettleAt_35, s_Bk_kettleAt_38, s_Bk_kettleAt_39, xf_of b00, xf_of b01, xc_of b00, xc_of b01, xIl_of b02, xIf_of b02, xIl_of b03, xIf_of b03, xIl_of b04, xIf_of b04, xIl_of b05, xIf_of b05, xIl_of b06, xIf_of b06, xIl_of b07, xIf_of b07, xIl_of b08, xIf_of b08, xIl_of b10, xIf_of b10, xIl_of b11, xIf_of b11, xIl_of b12, xIf_of b12, xIl_of b13, xIf_of b13, xIl_of b14, xIf_of b14, xJl_of b09, xJf_of b09, xll_1, xlg_1_0, xlg_1_1, xlg_1_2, xlg_1_3, xlg_1_4, xlg_1_5, xlg_1_6, xlg_1_7, xlg_1_8, xlg_1_9, xlg_1_10, xlg_1_11, xlg_1_12, xlg_1_13, xlg_1_14, xlg_1_15, xlg_1_16, xll_5, xlg_5_0, xlg_5_1, xlg_5_2, not_false_eq_true, Nat.reduceLT, Nat.reduceAdd, true_and, and_true, if_true, if_false, ite_true, ite_false, xnb_0, xnb_1, xnb_b, xk_v, xk_n, hn, nlt (show i < nk by omega) (by omega), nvp (show i < 6 by omega) (by omega), ncl (show i < 2147483648 by omega), nI_1, ih (i + 1) (by omega), kAt]
    repeat' split
    all_goals simp_all
theorem f_Bk_kettleAt (hB : kB H K b nm s) (nk : Nat) (hn : s 2 = nI nk) (hk : nk ≤ 6) (x y : Int32) :
    xcall E xprog (d + 1) 24 [.ref K, .int x, .int y] H Q = Q (.inl (some (.int (kAt (b 2) (b 3) x y 0 nk))), H) := by
  rw [e_Bk_kettleAt, s_Bk_kettleAt_0, s_Bk_kettleAt_1]
  exact l_Bk_kettleAt hB x y nk hn hk nk 0 (by omega)
theorem l_Bk_hasCustomsAt (hB : kB H K b nm s) (x y : Int32) (nk : Nat) (hn : s 3 = nI nk) (hk : nk ≤ 6) : ∀ m i, i + m = nk →
    xr E d m_Bk_hasCustomsAt Q (2, [some (.ref K), some (.int x), some (.int y), some (.int (nI i))], [], H) = Q (.inl (some (.int (cAt (b 5) (b 6) x y i m))), H) := by
  obtain ⟨b00, b01, b02, b03, b04, b05, b06, b07, b08, b09, b10, b11, b12, b13, b14⟩ := id hB
  intro m
  induction m with
  | zero =>
    intro i hi
    rw [s_Bk_hasCustomsAt_2]
    simp only [s_Bk_hasCustomsAt_0, s_Bk_hasCustomsAt_1, s_Bk_hasCustomsAt_3, s_Bk_hasCustomsAt_4, s_Bk_hasCustomsAt_7, s_Bk_hasCustomsAt_10, s_Bk_hasCustomsAt_11, s_Bk_hasCustomsAt_14, s_Bk_hasCustomsAt_15, s_Bk_hasCustomsAt_16, s_Bk_hasCustomsAt_17, s_Bk_hasCustomsAt_20, s_Bk_hasCustomsAt_21, s_Bk_hasCustomsAt_24, s_Bk_hasCustomsAt_25, s_Bk_hasCustomsAt_26, s_Bk_hasCustomsAt_27, s_Bk_hasCustomsAt_30, s_Bk_hasCustomsAt_31, s_Bk_hasCustomsAt_32, s_Bk_hasCustomsAt_35, s_Bk_hasCustomsAt_38, s_Bk_hasCustomsAt_39, xf_of b00, xf_of b01, xc_of b00, xc_of b01, xIl_of b02, xIf_of b02, xIl_of b03, xIf_of b03, xIl_of b04, xIf_of b04, xIl_of b05, xIf_of b05, xIl_of b06, xIf_of b06, xIl_of b07, xIf_of b07, xIl_of b08, xIf_of b08, xIl_of b10, xIf_of b10, xIl_of b11, xIf_of b11, xIl_of b12, xIf_of b12, xIl_of b13, xIf_of b13, xIl_of b14, xIf_of b14, xJl_of b09, xJf_of b09, xll_1, xlg_1_0, xlg_1_1, xlg_1_2, xlg_1_3, xlg_1_4, xlg_1_5, xlg_1_6, xlg_1_7, xlg_1_8, xlg_1_9, xlg_1_10, xlg_1_11, xlg_1_12, xlg_1_13, xlg_1_14, xlg_1_15, xlg_1_16, xll_5, xlg_5_0, xlg_5_1, xlg_5_2, not_false_eq_true, Nat.reduceLT, Nat.reduceAdd, true_and, and_true, if_true, if_false, ite_true, ite_false, xnb_0, xnb_1, xnb_b, xk_v, xk_n, hn, nge (show nk ≤ i by omega) (by omega), cAt]
  | succ m ih =>
    intro i hi
    rw [s_Bk_hasCustomsAt_2]
    simp only [s_Bk_hasCustomsAt_0, s_Bk_hasCustomsAt_1, s_Bk_hasCustomsAt_3, s_Bk_hasCustomsAt_4, s_Bk_hasCustomsAt_7, s_Bk_hasCustomsAt_10, s_Bk_hasCustomsAt_11, s_Bk_hasCustomsAt_14, s_Bk_hasCustomsAt_15, s_Bk_hasCustomsAt_16, s_Bk_hasCustomsAt_17, s_Bk_hasCustomsAt_20, s_Bk_hasCustomsAt_21, s_Bk_hasCustomsAt_24, s_Bk_hasCustomsAt_25, s_Bk_hasCustomsAt_26, s_Bk_hasCustomsAt_27, s_Bk_hasCustomsAt_30, s_Bk_hasCustomsAt_31, s_Bk_hasCustomsAt_32, s_Bk_hasCustomsAt_35, s_Bk_hasCustomsAt_38, s_Bk_hasCustomsAt_39, xf_of b00, xf_of b01, xc_of b00, xc_of b01, xIl_of b02, xIf_of b02, xIl_of b03, xIf_of b03, xIl_of b04, xIf_of b04, xIl_of b05, xIf_of b05, xIl_of b06, xIf_of b06, xIl_of b07, xIf_of b07, xIl_of b08, xIf_of b08, xIl_of b10, xIf_of b10, xIl_of b11, xIf_of b11, xIl_of b12, xIf_of b12, xIl_of b13, xIf_of b13, xIl_of b14, xIf_of b14, xJl_of b09, xJf_of b09, xll_1, xlg_1_0, xlg_1_1, xlg_1_2, xlg_1_3, xlg_1_4, xlg_1_5, xlg_1_6, xlg_1_7, xlg_1_8, xlg_1_9, xlg_1_10, xlg_1_11, xlg_1_12, xlg_1_13, xlg_1_14, xlg_1_15, xlg_1_16, xll_5, xlg_5_0, xlg_5_1, xlg_5_2, not_false_eq_true, Nat.reduceLT, Nat.reduceAdd, true_and, and_true, if_true, if_false, ite_true, ite_false, xnb_0, xnb_1, xnb_b, xk_v, xk_n, hn, nlt (show i < nk by omega) (by omega), nvp (show i < 6 by omega) (by omega), ncl (show i < 2147483648 by omega), nI_1, ih (i + 1) (by omega), cAt]
    repeat' split
    all_goals simp_all
theorem f_Bk_hasCustomsAt (hB : kB H K b nm s) (nk : Nat) (hn : s 3 = nI nk) (hk : nk ≤ 6) (x y : Int32) :
    xcall E xprog (d + 1) 25 [.ref K, .int x, .int y] H Q = Q (.inl (some (.int (cAt (b 5) (b 6) x y 0 nk))), H) := by
  rw [e_Bk_hasCustomsAt, s_Bk_hasCustomsAt_0, s_Bk_hasCustomsAt_1]
  exact l_Bk_hasCustomsAt hB x y nk hn hk nk 0 (by omega)
theorem f_Bay_eastwards (x : Int32) : xcall E xprog (d + 1) 16 [.int x] H Q = Q (.inl (some (.int (eaw x))), H) := by
  rw [e_Bay_eastwards]
  simp only [s_Bay_eastwards_0, s_Bay_eastwards_1, s_Bay_eastwards_2, s_Bay_eastwards_5, s_Bay_eastwards_6, s_Bay_eastwards_9, s_Bay_eastwards_10, s_Bay_eastwards_11, s_Bay_eastwards_14, s_Bay_eastwards_15, s_Bay_eastwards_18, s_Bay_eastwards_19, not_false_eq_true, Nat.reduceLT, Nat.reduceAdd, true_and, and_true, if_true, if_false, ite_true, ite_false, xnb_0, xnb_1, xnb_b, xk_v, xk_n, eaw]
  repeat' split
  all_goals simp_all
theorem f_Bay_southwards (x : Int32) : xcall E xprog (d + 1) 17 [.int x] H Q = Q (.inl (some (.int (sow x))), H) := by
  rw [e_Bay_southwards]
  simp only [s_Bay_southwards_0, s_Bay_southwards_1, s_Bay_southwards_2, s_Bay_southwards_5, s_Bay_southwards_6, s_Bay_southwards_9, s_Bay_southwards_10, s_Bay_southwards_13, s_Bay_southwards_14, s_Bay_southwards_17, s_Bay_southwards_18, not_false_eq_true, Nat.reduceLT, Nat.reduceAdd, true_and, and_true, if_true, if_false, ite_true, ite_false, xnb_0, xnb_1, xnb_b, xk_v, xk_n, sow]
  repeat' split
  all_goals simp_all
theorem l_Bay_aroma (hB : kB H K b nm s) (hY : kY H B K a t) (nk : Nat) (hn : s 2 = nI nk) (hk : nk ≤ 6) (x y fx fy : Int32) : ∀ m i z jk, i + m = nk →
    xr E d m_Bay_aroma Q (37, [some (.ref B), some (.int x), some (.int y), some (.int fx), some (.int fy), some (.int z), some (.int (nI i)), jk], [], H) = Q (.inl (some (.int (aro (a 0) (b 4) (b 2) (b 3) fx fy i m z))), H) := by
  obtain ⟨b00, b01, b02, b03, b04, b05, b06, b07, b08, b09, b10, b11, b12, b13, b14⟩ := id hB
  obtain ⟨y0, y1, y2, y3, y4, y5, y6, y7, y8, y9⟩ := id hY
  intro m
  induction m with
  | zero =>
    intro i z jk hi
    rw [s_Bay_aroma_37]
    simp only [s_Bay_aroma_0, s_Bay_aroma_1, s_Bay_aroma_2, s_Bay_aroma_5, s_Bay_aroma_8, s_Bay_aroma_9, s_Bay_aroma_12, s_Bay_aroma_13, s_Bay_aroma_14, s_Bay_aroma_15, s_Bay_aroma_16, s_Bay_aroma_17, s_Bay_aroma_20, s_Bay_aroma_23, s_Bay_aroma_24, s_Bay_aroma_27, s_Bay_aroma_28, s_Bay_aroma_29, s_Bay_aroma_31, s_Bay_aroma_32, s_Bay_aroma_34, s_Bay_aroma_35, s_Bay_aroma_39, s_Bay_aroma_40, s_Bay_aroma_43, s_Bay_aroma_46, s_Bay_aroma_49, s_Bay_aroma_50, s_Bay_aroma_53, s_Bay_aroma_55, s_Bay_aroma_56, s_Bay_aroma_59, s_Bay_aroma_60, s_Bay_aroma_63, s_Bay_aroma_66, s_Bay_aroma_68, s_Bay_aroma_69, s_Bay_aroma_70, s_Bay_aroma_71, s_Bay_aroma_74, s_Bay_aroma_75, s_Bay_aroma_78, s_Bay_aroma_81, s_Bay_aroma_83, s_Bay_aroma_84, s_Bay_aroma_86, s_Bay_aroma_87, s_Bay_aroma_90, s_Bay_aroma_91, s_Bay_aroma_93, s_Bay_aroma_95, s_Bay_aroma_96, s_Bay_aroma_97, s_Bay_aroma_100, s_Bay_aroma_103, s_Bay_aroma_105, s_Bay_aroma_106, s_Bay_aroma_107, s_Bay_aroma_109, s_Bay_aroma_110, s_Bay_aroma_111, s_Bay_aroma_114, s_Bay_aroma_115, s_Bay_aroma_117, s_Bay_aroma_120, s_Bay_aroma_123, s_Bay_aroma_125, xf_of b00, xf_of b01, xc_of b00, xc_of b01, xIl_of b02, xIf_of b02, xIl_of b03, xIf_of b03, xIl_of b04, xIf_of b04, xIl_of b05, xIf_of b05, xIl_of b06, xIf_of b06, xIl_of b07, xIf_of b07, xIl_of b08, xIf_of b08, xIl_of b10, xIf_of b10, xIl_of b11, xIf_of b11, xIl_of b12, xIf_of b12, xIl_of b13, xIf_of b13, xIl_of b14, xIf_of b14, xJl_of b09, xJf_of b09, xll_1, xlg_1_0, xlg_1_1, xlg_1_2, xlg_1_3, xlg_1_4, xlg_1_5, xlg_1_6, xlg_1_7, xlg_1_8, xlg_1_9, xlg_1_10, xlg_1_11, xlg_1_12, xlg_1_13, xlg_1_14, xlg_1_15, xlg_1_16, xll_5, xlg_5_0, xlg_5_1, xlg_5_2, xf_of y0, xc_of y0, xIl_of y1, xIf_of y1, xIl_of y2, xIf_of y2, xIl_of y3, xIf_of y3, xIl_of y4, xIf_of y4, xIl_of y5, xIf_of y5, xIl_of y6, xIf_of y6, xIl_of y7, xIf_of y7, xIl_of y8, xIf_of y8, xIl_of y9, xIf_of y9, xll_0, xlg_0_0, xlg_0_1, xlg_0_2, xlg_0_3, xlg_0_4, xlg_0_5, xlg_0_6, xlg_0_7, xlg_0_8, xlg_0_9, xlg_0_10, xlg_0_11, xlg_0_12, xlg_0_13, not_false_eq_true, Nat.reduceLT, Nat.reduceAdd, true_and, and_true, if_true, if_false, ite_true, ite_false, xnb_0, xnb_1, xnb_b, xk_v, xk_n, hn, nge (show nk ≤ i by omega) (by omega), aro]
  | succ m ih =>
    intro i z jk hi
    rw [s_Bay_aroma_37]
    simp only [s_Bay_aroma_0, s_Bay_aroma_1, s_Bay_aroma_2, s_Bay_aroma_5, s_Bay_aroma_8, s_Bay_aroma_9, s_Bay_aroma_12, s_Bay_aroma_13, s_Bay_aroma_14, s_Bay_aroma_15, s_Bay_aroma_16, s_Bay_aroma_17, s_Bay_aroma_20, s_Bay_aroma_23, s_Bay_aroma_24, s_Bay_aroma_27, s_Bay_aroma_28, s_Bay_aroma_29, s_Bay_aroma_31, s_Bay_aroma_32, s_Bay_aroma_34, s_Bay_aroma_35, s_Bay_aroma_39, s_Bay_aroma_40, s_Bay_aroma_43, s_Bay_aroma_46, s_Bay_aroma_49, s_Bay_aroma_50, s_Bay_aroma_53, s_Bay_aroma_55, s_Bay_aroma_56, s_Bay_aroma_59, s_Bay_aroma_60, s_Bay_aroma_63, s_Bay_aroma_66, s_Bay_aroma_68, s_Bay_aroma_69, s_Bay_aroma_70, s_Bay_aroma_71, s_Bay_aroma_74, s_Bay_aroma_75, s_Bay_aroma_78, s_Bay_aroma_81, s_Bay_aroma_83, s_Bay_aroma_84, s_Bay_aroma_86, s_Bay_aroma_87, s_Bay_aroma_90, s_Bay_aroma_91, s_Bay_aroma_93, s_Bay_aroma_95, s_Bay_aroma_96, s_Bay_aroma_97, s_Bay_aroma_100, s_Bay_aroma_103, s_Bay_aroma_105, s_Bay_aroma_106, s_Bay_aroma_107, s_Bay_aroma_109, s_Bay_aroma_110, s_Bay_aroma_111, s_Bay_aroma_114, s_Bay_aroma_115, s_Bay_aroma_117, s_Bay_aroma_120, s_Bay_aroma_123, s_Bay_aroma_125, xf_of b00, xf_of b01, xc_of b00, xc_of b01, xIl_of b02, xIf_of b02, xIl_of b03, xIf_of b03, xIl_of b04, xIf_of b04, xIl_of b05, xIf_of b05, xIl_of b06, xIf_of b06, xIl_of b07, xIf_of b07, xIl_of b08, xIf_of b08, xIl_of b10, xIf_of b10, xIl_of b11, xIf_of b11, xIl_of b12, xIf_of b12, xIl_of b13, xIf_of b13, xIl_of b14, xIf_of b14, xJl_of b09, xJf_of b09, xll_1, xlg_1_0, xlg_1_1, xlg_1_2, xlg_1_3, xlg_1_4, xlg_1_5, xlg_1_6, xlg_1_7, xlg_1_8, xlg_1_9, xlg_1_10, xlg_1_11, xlg_1_12, xlg_1_13, xlg_1_14, xlg_1_15, xlg_1_16, xll_5, xlg_5_0, xlg_5_1, xlg_5_2, xf_of y0, xc_of y0, xIl_of y1, xIf_of y1, xIl_of y2, xIf_of y2, xIl_of y3, xIf_of y3, xIl_of y4, xIf_of y4, xIl_of y5, xIf_of y5, xIl_of y6, xIf_of y6, xIl_of y7, xIf_of y7, xIl_of y8, xIf_of y8, xIl_of y9, xIf_of y9, xll_0, xlg_0_0, xlg_0_1, xlg_0_2, xlg_0_3, xlg_0_4, xlg_0_5, xlg_0_6, xlg_0_7, xlg_0_8, xlg_0_9, xlg_0_10, xlg_0_11, xlg_0_12, xlg_0_13, not_false_eq_true, Nat.reduceLT, Nat.reduceAdd, true_and, and_true, if_true, if_false, ite_true, ite_false, xnb_0, xnb_1, xnb_b, xk_v, xk_n, hn, nlt (show i < nk by omega) (by omega), nvp (show i < 6 by omega) (by omega), ncl (show i < 2147483648 by omega), nI_1, ih (i + 1) _ _ (by omega), aro, aroV, xabs]
    repeat' split
    all_goals simp_all
def aroC (a : Nat → Nat → Int32) (t : Nat → Int32) (b : Nat → Nat → Int32) (nk : Nat) (x y : Int32) : Int32 := aro (a 0) (b 4) (b 2) (b 3) (x - eaw (t 0) * t 1) (y - sow (t 0) * t 1) 0 nk 0
theorem f_Bay_aroma (hB : kB H K b nm s) (hY : kY H B K a t) (nk : Nat) (hn : s 2 = nI nk) (hk : nk ≤ 6) (x y : Int32) :
    xcall E xprog (d + 2) 2 [.ref B, .int x, .int y] H Q = Q (.inl (some (.int (aroC a t b nk x y))), H) := by
  obtain ⟨y0, y1, y2, y3, y4, y5, y6, y7, y8, y9⟩ := id hY
  rw [e_Bay_aroma]
  simp only [s_Bay_aroma_0, s_Bay_aroma_1, s_Bay_aroma_2, s_Bay_aroma_5, s_Bay_aroma_8, s_Bay_aroma_9, s_Bay_aroma_12, s_Bay_aroma_13, s_Bay_aroma_14, s_Bay_aroma_15, s_Bay_aroma_16, s_Bay_aroma_17, s_Bay_aroma_20, s_Bay_aroma_23, s_Bay_aroma_24, s_Bay_aroma_27, s_Bay_aroma_28, s_Bay_aroma_29, s_Bay_aroma_31, s_Bay_aroma_32, s_Bay_aroma_34, s_Bay_aroma_35, xf_of y0, xc_of y0, xIl_of y1, xIf_of y1, xIl_of y2, xIf_of y2, xIl_of y3, xIf_of y3, xIl_of y4, xIf_of y4, xIl_of y5, xIf_of y5, xIl_of y6, xIf_of y6, xIl_of y7, xIf_of y7, xIl_of y8, xIf_of y8, xIl_of y9, xIf_of y9, xll_0, xlg_0_0, xlg_0_1, xlg_0_2, xlg_0_3, xlg_0_4, xlg_0_5, xlg_0_6, xlg_0_7, xlg_0_8, xlg_0_9, xlg_0_10, xlg_0_11, xlg_0_12, xlg_0_13, not_false_eq_true, Nat.reduceLT, Nat.reduceAdd, true_and, and_true, if_true, if_false, ite_true, ite_false, xnb_0, xnb_1, xnb_b, xk_v, xk_n, f_Bay_eastwards, f_Bay_southwards, aroC]
  exact l_Bay_aroma hB hY nk hn hk x y _ _ nk 0 0 none (by omega)
theorem k5_0 : ((5 : Int32) = 0) = False := by decide
theorem k2_0 : ((2 : Int32) = 0) = False := by decide
theorem k4_0 : ((4 : Int32) = 0) = False := by decide
theorem k10_0 : ((10 : Int32) = 0) = False := by decide
theorem kAt_is {kc kr : Nat → Int32} {x y : Int32} : ∀ m i, kAt kc kr x y i m = -1 ∨ ∃ j, i ≤ j ∧ j < i + m ∧ kAt kc kr x y i m = nI j ∧ kc j = x ∧ kr j = y
  | 0, _ => Or.inl rfl
  | m + 1, i => by
    unfold kAt
    split
    · rename_i h
      exact Or.inr ⟨i, Nat.le_refl _, by omega, rfl, h.1, h.2⟩
    · rcases kAt_is m (i + 1) with h | ⟨j, h1, h2, h3, h4, h5⟩
      · exact Or.inl h
      · exact Or.inr ⟨j, by omega, by omega, h3, h4, h5⟩
theorem nI_m1 {j : Nat} (h : j < 2147483648) : (nI j = -1) = False := by
  apply eq_false
  intro e
  have := ncl h
  rw [e] at this
  have h2 : ((-1 : Int32).toNatClampNeg) = 0 := by decide
  have h3 : j = 0 := by omega
  subst h3
  exact absurd e (by decide)
theorem f_Bay_steamingKettleAt (hB : kB H K b nm s) (hY : kY H B K a t) (nk : Nat) (hn : s 2 = nI nk) (hk : nk ≤ 6) (x y : Int32) :
    xcall E xprog (d + 2) 3 [.ref B, .int x, .int y] H Q = Q (.inl (some (.int (if kAt (b 2) (b 3) x y 0 nk = -1 then -1 else if a 0 (kAt (b 2) (b 3) x y 0 nk).toNatClampNeg = 0 then kAt (b 2) (b 3) x y 0 nk else -1))), H) := by
  obtain ⟨y0, y1, y2, y3, y4, y5, y6, y7, y8, y9⟩ := id hY
  obtain ⟨b00, b01, b02, b03, b04, b05, b06, b07, b08, b09, b10, b11, b12, b13, b14⟩ := id hB
  rw [e_Bay_steamingKettleAt]
  rcases kAt_is (kc := b 2) (kr := b 3) (x := x) (y := y) nk 0 with h | ⟨j, _, h2, h, _, _⟩
  · simp only [s_Bay_steamingKettleAt_0, s_Bay_steamingKettleAt_1, s_Bay_steamingKettleAt_4, s_Bay_steamingKettleAt_5, s_Bay_steamingKettleAt_6, s_Bay_steamingKettleAt_9, s_Bay_steamingKettleAt_10, s_Bay_steamingKettleAt_11, s_Bay_steamingKettleAt_12, s_Bay_steamingKettleAt_15, s_Bay_steamingKettleAt_16, s_Bay_steamingKettleAt_19, s_Bay_steamingKettleAt_20, s_Bay_steamingKettleAt_21, s_Bay_steamingKettleAt_24, s_Bay_steamingKettleAt_25, s_Bay_steamingKettleAt_28, s_Bay_steamingKettleAt_29, xf_of y0, xc_of y0, xIl_of y1, xIf_of y1, xIl_of y2, xIf_of y2, xIl_of y3, xIf_of y3, xIl_of y4, xIf_of y4, xIl_of y5, xIf_of y5, xIl_of y6, xIf_of y6, xIl_of y7, xIf_of y7, xIl_of y8, xIf_of y8, xIl_of y9, xIf_of y9, xll_0, xlg_0_0, xlg_0_1, xlg_0_2, xlg_0_3, xlg_0_4, xlg_0_5, xlg_0_6, xlg_0_7, xlg_0_8, xlg_0_9, xlg_0_10, xlg_0_11, xlg_0_12, xlg_0_13, xf_of b00, xf_of b01, xc_of b00, xc_of b01, xIl_of b02, xIf_of b02, xIl_of b03, xIf_of b03, xIl_of b04, xIf_of b04, xIl_of b05, xIf_of b05, xIl_of b06, xIf_of b06, xIl_of b07, xIf_of b07, xIl_of b08, xIf_of b08, xIl_of b10, xIf_of b10, xIl_of b11, xIf_of b11, xIl_of b12, xIf_of b12, xIl_of b13, xIf_of b13, xIl_of b14, xIf_of b14, xJl_of b09, xJf_of b09, xll_1, xlg_1_0, xlg_1_1, xlg_1_2, xlg_1_3, xlg_1_4, xlg_1_5, xlg_1_6, xlg_1_7, xlg_1_8, xlg_1_9, xlg_1_10, xlg_1_11, xlg_1_12, xlg_1_13, xlg_1_14, xlg_1_15, xlg_1_16, xll_5, xlg_5_0, xlg_5_1, xlg_5_2, not_false_eq_true, Nat.reduceLT, Nat.reduceAdd, true_and, and_true, if_true, if_false, ite_true, ite_false, xnb_0, xnb_1, xnb_b, xk_v, xk_n, f_Bk_kettleAt hB nk hn hk, h]
  · simp only [s_Bay_steamingKettleAt_0, s_Bay_steamingKettleAt_1, s_Bay_steamingKettleAt_4, s_Bay_steamingKettleAt_5, s_Bay_steamingKettleAt_6, s_Bay_steamingKettleAt_9, s_Bay_steamingKettleAt_10, s_Bay_steamingKettleAt_11, s_Bay_steamingKettleAt_12, s_Bay_steamingKettleAt_15, s_Bay_steamingKettleAt_16, s_Bay_steamingKettleAt_19, s_Bay_steamingKettleAt_20, s_Bay_steamingKettleAt_21, s_Bay_steamingKettleAt_24, s_Bay_steamingKettleAt_25, s_Bay_steamingKettleAt_28, s_Bay_steamingKettleAt_29, xf_of y0, xc_of y0, xIl_of y1, xIf_of y1, xIl_of y2, xIf_of y2, xIl_of y3, xIf_of y3, xIl_of y4, xIf_of y4, xIl_of y5, xIf_of y5, xIl_of y6, xIf_of y6, xIl_of y7, xIf_of y7, xIl_of y8, xIf_of y8, xIl_of y9, xIf_of y9, xll_0, xlg_0_0, xlg_0_1, xlg_0_2, xlg_0_3, xlg_0_4, xlg_0_5, xlg_0_6, xlg_0_7, xlg_0_8, xlg_0_9, xlg_0_10, xlg_0_11, xlg_0_12, xlg_0_13, xf_of b00, xf_of b01, xc_of b00, xc_of b01, xIl_of b02, xIf_of b02, xIl_of b03, xIf_of b03, xIl_of b04, xIf_of b04, xIl_of b05, xIf_of b05, xIl_of b06, xIf_of b06, xIl_of b07, xIf_of b07, xIl_of b08, xIf_of b08, xIl_of b10, xIf_of b10, xIl_of b11, xIf_of b11, xIl_of b12, xIf_of b12, xIl_of b13, xIf_of b13, xIl_of b14, xIf_of b14, xJl_of b09, xJf_of b09, xll_1, xlg_1_0, xlg_1_1, xlg_1_2, xlg_1_3, xlg_1_4, xlg_1_5, xlg_1_6, xlg_1_7, xlg_1_8, xlg_1_9, xlg_1_10, xlg_1_11, xlg_1_12, xlg_1_13, xlg_1_14, xlg_1_15, xlg_1_16, xll_5, xlg_5_0, xlg_5_1, xlg_5_2, not_false_eq_true, Nat.reduceLT, Nat.reduceAdd, true_and, and_true, if_true, if_false, ite_true, ite_false, xnb_0, xnb_1, xnb_b, xk_v, xk_n, f_Bk_kettleAt hB nk hn hk, h, nI_m1 (show j < 2147483648 by omega), nvp (show j < 6 by omega) (by omega), ncl (show j < 2147483648 by omega)]
    repeat' split
    all_goals simp_all
theorem f_Bay_isAtHome (hB : kB H K b nm s) (hY : kY H B K a t) (c : Nat) (hc : c < 6) :
    xcall E xprog (d + 1) 4 [.ref B, .int (nI c)] H Q = Q (.inl (some (.int (xb (a 3 c = b 7 c ∧ a 4 c = b 8 c)))), H) := by
  obtain ⟨y0, y1, y2, y3, y4, y5, y6, y7, y8, y9⟩ := id hY
  obtain ⟨b00, b01, b02, b03, b04, b05, b06, b07, b08, b09, b10, b11, b12, b13, b14⟩ := id hB
  rw [e_Bay_isAtHome]
  simp only [s_Bay_isAtHome_0, s_Bay_isAtHome_1, s_Bay_isAtHome_4, s_Bay_isAtHome_5, s_Bay_isAtHome_6, s_Bay_isAtHome_7, s_Bay_isAtHome_10, s_Bay_isAtHome_13, s_Bay_isAtHome_14, s_Bay_isAtHome_15, s_Bay_isAtHome_18, s_Bay_isAtHome_19, s_Bay_isAtHome_22, s_Bay_isAtHome_23, s_Bay_isAtHome_24, s_Bay_isAtHome_25, s_Bay_isAtHome_28, s_Bay_isAtHome_31, s_Bay_isAtHome_32, s_Bay_isAtHome_33, s_Bay_isAtHome_36, s_Bay_isAtHome_37, s_Bay_isAtHome_40, s_Bay_isAtHome_41, xf_of y0, xc_of y0, xIl_of y1, xIf_of y1, xIl_of y2, xIf_of y2, xIl_of y3, xIf_of y3, xIl_of y4, xIf_of y4, xIl_of y5, xIf_of y5, xIl_of y6, xIf_of y6, xIl_of y7, xIf_of y7, xIl_of y8, xIf_of y8, xIl_of y9, xIf_of y9, xll_0, xlg_0_0, xlg_0_1, xlg_0_2, xlg_0_3, xlg_0_4, xlg_0_5, xlg_0_6, xlg_0_7, xlg_0_8, xlg_0_9, xlg_0_10, xlg_0_11, xlg_0_12, xlg_0_13, xf_of b00, xf_of b01, xc_of b00, xc_of b01, xIl_of b02, xIf_of b02, xIl_of b03, xIf_of b03, xIl_of b04, xIf_of b04, xIl_of b05, xIf_of b05, xIl_of b06, xIf_of b06, xIl_of b07, xIf_of b07, xIl_of b08, xIf_of b08, xIl_of b10, xIf_of b10, xIl_of b11, xIf_of b11, xIl_of b12, xIf_of b12, xIl_of b13, xIf_of b13, xIl_of b14, xIf_of b14, xJl_of b09, xJf_of b09, xll_1, xlg_1_0, xlg_1_1, xlg_1_2, xlg_1_3, xlg_1_4, xlg_1_5, xlg_1_6, xlg_1_7, xlg_1_8, xlg_1_9, xlg_1_10, xlg_1_11, xlg_1_12, xlg_1_13, xlg_1_14, xlg_1_15, xlg_1_16, xll_5, xlg_5_0, xlg_5_1, xlg_5_2, not_false_eq_true, Nat.reduceLT, Nat.reduceAdd, true_and, and_true, if_true, if_false, ite_true, ite_false, xnb_0, xnb_1, xnb_b, xk_v, xk_n, nvp (show c < 6 by omega) (by omega), ncl (show c < 2147483648 by omega)]
  repeat' split
  all_goals simp_all [xb]
theorem f_Bay_wayOfAnHour (hY : kY H B K a t) (c : Nat) (hc : c < 6) :
    xcall E xprog (d + 1) 5 [.ref B, .int (nI c)] H Q = Q (.inl (some (.int (if t 1 = 0 then (10 - a 5 c / 5) / 2 else 10 - a 5 c / 5))), H) := by
  obtain ⟨y0, y1, y2, y3, y4, y5, y6, y7, y8, y9⟩ := id hY
  rw [e_Bay_wayOfAnHour]
  simp only [s_Bay_wayOfAnHour_0, s_Bay_wayOfAnHour_2, s_Bay_wayOfAnHour_3, s_Bay_wayOfAnHour_6, s_Bay_wayOfAnHour_7, s_Bay_wayOfAnHour_8, s_Bay_wayOfAnHour_9, s_Bay_wayOfAnHour_10, s_Bay_wayOfAnHour_11, s_Bay_wayOfAnHour_12, s_Bay_wayOfAnHour_13, s_Bay_wayOfAnHour_16, s_Bay_wayOfAnHour_19, s_Bay_wayOfAnHour_20, s_Bay_wayOfAnHour_21, s_Bay_wayOfAnHour_22, s_Bay_wayOfAnHour_25, s_Bay_wayOfAnHour_26, xf_of y0, xc_of y0, xIl_of y1, xIf_of y1, xIl_of y2, xIf_of y2, xIl_of y3, xIf_of y3, xIl_of y4, xIf_of y4, xIl_of y5, xIf_of y5, xIl_of y6, xIf_of y6, xIl_of y7, xIf_of y7, xIl_of y8, xIf_of y8, xIl_of y9, xIf_of y9, xll_0, xlg_0_0, xlg_0_1, xlg_0_2, xlg_0_3, xlg_0_4, xlg_0_5, xlg_0_6, xlg_0_7, xlg_0_8, xlg_0_9, xlg_0_10, xlg_0_11, xlg_0_12, xlg_0_13, not_false_eq_true, Nat.reduceLT, Nat.reduceAdd, true_and, and_true, if_true, if_false, ite_true, ite_false, xnb_0, xnb_1, xnb_b, xk_v, xk_n, nvp (show c < 6 by omega) (by omega), ncl (show c < 2147483648 by omega), k5_0, k2_0]
  repeat' split
  all_goals simp_all
end BAY1
