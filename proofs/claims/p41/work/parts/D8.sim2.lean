/-! ===== the law's reckoning: aroma, smell, speed ===== -/
section SIM2
variable {E : xE} {d D : Nat} {Q : xR → Prop} {H X : xH} {ad ro : Nat → Nat} {b a a' : Nat → Nat → Int32} {s t t' : Nat → Int32} {nk nc nn lo hi : Nat} {ru : Nat → Option Nat} {r k c i j m n p : Nat} {x y v z w : Int32}

theorem kf_0 : kf b a k 0 = b 2 k := rfl
theorem kf_1 : kf b a k 1 = b 3 k := rfl
theorem kf_2 : kf b a k 2 = b 4 k := rfl
theorem kf_3 : kf b a k 3 = a 0 k := rfl
theorem kf_4 : kf b a k 4 = a 2 k := rfl
theorem cf_0 : cf b a c 0 = b 7 c := rfl
theorem cf_1 : cf b a c 1 = b 8 c := rfl
theorem cf_2 : cf b a c 2 = b 9 c := rfl
theorem cf_3 : cf b a c 3 = a 3 c := rfl
theorem cf_4 : cf b a c 4 = a 4 c := rfl
theorem cf_5 : cf b a c 5 = a 5 c := rfl
theorem cf_6 : cf b a c 6 = a 6 c := rfl
theorem cf_7 : cf b a c 7 = a 7 c := rfl
theorem cf_8 : cf b a c 8 = a 8 c := rfl
theorem ic_0 : (0 : Int32).toNatClampNeg = 0 := rfl
theorem ic_1 : (1 : Int32).toNatClampNeg = 1 := rfl
theorem ic_2 : (2 : Int32).toNatClampNeg = 2 := rfl
theorem ic_3 : (3 : Int32).toNatClampNeg = 3 := rfl
theorem ic_4 : (4 : Int32).toNatClampNeg = 4 := rfl
theorem ic_5 : (5 : Int32).toNatClampNeg = 5 := rfl
theorem ic_6 : (6 : Int32).toNatClampNeg = 6 := rfl
theorem ic_7 : (7 : Int32).toNatClampNeg = 7 := rfl
theorem ic_8 : (8 : Int32).toNatClampNeg = 8 := rfl
theorem v5_0 : vp_in 0 5 = True := nvp (i := 0) (by omega) (by omega)
theorem v5_1 : vp_in 1 5 = True := nvp (i := 1) (by omega) (by omega)
theorem v5_2 : vp_in 2 5 = True := nvp (i := 2) (by omega) (by omega)
theorem v5_3 : vp_in 3 5 = True := nvp (i := 3) (by omega) (by omega)
theorem v5_4 : vp_in 4 5 = True := nvp (i := 4) (by omega) (by omega)
theorem v9_0 : vp_in 0 9 = True := nvp (i := 0) (by omega) (by omega)
theorem v9_1 : vp_in 1 9 = True := nvp (i := 1) (by omega) (by omega)
theorem v9_2 : vp_in 2 9 = True := nvp (i := 2) (by omega) (by omega)
theorem v9_3 : vp_in 3 9 = True := nvp (i := 3) (by omega) (by omega)
theorem v9_4 : vp_in 4 9 = True := nvp (i := 4) (by omega) (by omega)
theorem v9_5 : vp_in 5 9 = True := nvp (i := 5) (by omega) (by omega)
theorem v9_6 : vp_in 6 9 = True := nvp (i := 6) (by omega) (by omega)
theorem v9_7 : vp_in 7 9 = True := nvp (i := 7) (by omega) (by omega)
theorem v9_8 : vp_in 8 9 = True := nvp (i := 8) (by omega) (by omega)
theorem ar_h (ks kc kr x y e1 e2 : Int32) : ks - 2 * (if 0 ≤ kc + e1 - x then kc + e1 - x else 0 - (kc + e1 - x)) - 2 * (if 0 ≤ kr + e2 - y then kr + e2 - y else 0 - (kr + e2 - y)) = ks - 2 * (xabs (kc - (x - e1)) + xabs (kr - (y - e2))) := by
  rw [show kc - (x - e1) = kc + e1 - x by grind, show kr - (y - e2) = kr + e2 - y by grind]
  show ks - 2 * xabs _ - 2 * xabs _ = _
  grind
theorem l_S_ar (h : jOK ad ro nk nc nn lo hi) (hb : ∀ k, k < nk → ¬ a 0 k < 0) : ∀ m i z (j7 j8 j9 j10 : Option Value), i + m = nk → xr E d m_S_aroma Q (16, [some (.ref (ad 1)), some (.int x), some (.int y), some (.int z), some (.ref (ad 2)), some (.int (nI nk)), some (.int (nI i)), j7, j8, j9, j10], [], (jH ad ro b s nk nc nn ru H a t)) = Q (.inl (some (.int (aro (a 0) (b 4) (b 2) (b 3) (x - eaw (t 0) * t 1) (y - sow (t 0) * t 1) i m z))), (jH ad ro b s nk nc nn ru H a t))
  | 0, i, z, j7, j8, j9, j10, hi => by
    have := h.1
    rw [s_S_aroma_16]
    simp only [s_S_aroma_18, s_S_aroma_20, s_S_aroma_159, s_S_aroma_160, not_false_eq_true, Nat.reduceLT, Nat.reduceAdd, true_and, and_true, if_true, if_false, ite_true, ite_false, xnb_0, xnb_1, xnb_b, xk_v, xk_n, nge (show nk ≤ i by omega) (by omega), aro]
  | m + 1, i, z, j7, j8, j9, j10, hi => by
    have := h.1
    have hk : i < nk := by omega
    have ih := fun z j7 j8 j9 j10 => l_S_ar h hb m (i + 1) z j7 j8 j9 j10 (by omega)
    rw [s_S_aroma_16]
    by_cases hc : 0 < a 0 i
    · have hz : ¬ a 0 i = 0 := fun e => by rw [e] at hc; exact absurd hc (by decide)
      simp only [↓reduceIte, s_S_aroma_18, s_S_aroma_20, s_S_aroma_23, s_S_aroma_25, s_S_aroma_27, s_S_aroma_28, s_S_aroma_30, s_S_aroma_32, s_S_aroma_33, s_S_aroma_34, s_S_aroma_37, s_S_aroma_153, s_S_aroma_156, not_false_eq_true, Nat.reduceLT, Nat.reduceAdd, true_and, and_true, if_true, if_false, ite_true, ite_false, xnb_0, xnb_1, xnb_b, xk_v, xk_n, nlt hk (by omega), (xA_of (j_2 h)).1, (xA_of (j_2 h)).2.1, nvp hk (by omega), ncl (show i < 2147483648 by omega), if_pos hk, xrf_s, xIl_of (j_k h hk), xIf_of (j_k h hk), ic_3, v5_3, kf_3, eq_true hc, show nI i + 1 = nI (i + 1) from nI_ad i 1, ih, aro, if_neg hz]
    · have hz : a 0 i = 0 := by
        have h1 := hb i hk
        exact Int32.le_antisymm (Int32.not_lt.mp hc) (Int32.not_lt.mp h1)
      have hc0 : (0 < a 0 i) = False := eq_false hc
      by_cases g1 : t 0 = 1
      · have g2 : ¬ t 0 = 2 := by rw [g1]; decide
        have g0 : ¬ t 0 = 0 := by rw [g1]; decide
        have he1 : eaw (t 0) * t 1 = t 1 := by unfold eaw; simp only [if_pos g1, if_neg g2, if_neg g0]; grind
        have he2 : sow (t 0) * t 1 = 0 := by unfold sow; simp only [if_pos g1, if_neg g2, if_neg g0]; grind
        simp only [↓reduceIte, s_S_aroma_18, s_S_aroma_20, s_S_aroma_23, s_S_aroma_25, s_S_aroma_27, s_S_aroma_28, s_S_aroma_30, s_S_aroma_32, s_S_aroma_33, s_S_aroma_34, s_S_aroma_37, s_S_aroma_40, s_S_aroma_42, s_S_aroma_43, s_S_aroma_44, s_S_aroma_45, s_S_aroma_48, s_S_aroma_49, s_S_aroma_52, s_S_aroma_53, s_S_aroma_56, s_S_aroma_59, s_S_aroma_60, s_S_aroma_63, s_S_aroma_64, s_S_aroma_67, s_S_aroma_68, s_S_aroma_71, s_S_aroma_72, s_S_aroma_75, s_S_aroma_76, s_S_aroma_77, s_S_aroma_79, s_S_aroma_81, s_S_aroma_82, s_S_aroma_83, s_S_aroma_84, s_S_aroma_87, s_S_aroma_88, s_S_aroma_91, s_S_aroma_92, s_S_aroma_95, s_S_aroma_98, s_S_aroma_99, s_S_aroma_102, s_S_aroma_105, s_S_aroma_106, s_S_aroma_109, s_S_aroma_110, s_S_aroma_113, s_S_aroma_114, s_S_aroma_115, s_S_aroma_117, s_S_aroma_119, s_S_aroma_120, s_S_aroma_121, s_S_aroma_122, s_S_aroma_124, s_S_aroma_125, s_S_aroma_126, s_S_aroma_129, s_S_aroma_130, s_S_aroma_131, s_S_aroma_132, s_S_aroma_134, s_S_aroma_135, s_S_aroma_136, s_S_aroma_139, s_S_aroma_140, s_S_aroma_141, s_S_aroma_143, s_S_aroma_145, s_S_aroma_148, s_S_aroma_149, s_S_aroma_151, s_S_aroma_152, s_S_aroma_153, s_S_aroma_156, not_false_eq_true, Nat.reduceLT, Nat.reduceAdd, true_and, and_true, if_true, if_false, ite_true, ite_false, xnb_0, xnb_1, xnb_b, xk_v, xk_n, nlt hk (by omega), (xA_of (j_2 h)).1, (xA_of (j_2 h)).2.1, nvp hk (by omega), ncl (show i < 2147483648 by omega), if_pos hk, xrf_s, xIl_of (j_k h hk), xIf_of (j_k h hk), ic_0, ic_1, ic_2, ic_3, v5_0, v5_1, v5_2, v5_3, kf_0, kf_1, kf_2, kf_3, hc0, xf_of (j_1 h), xll_10, xlg_10_0, xlg_10_1, xlg_10_2, xlg_10_3, xlg_10_4, xlg_10_5, xlg_10_6, xlg_10_7, xlg_10_8, eq_true g1, eq_false g2, eq_false g0, show nI i + 1 = nI (i + 1) from nI_ad i 1, ih, aro, if_pos hz, he1, he2, ar_h]
        by_cases hq : 0 < b 4 i - 2 * (xabs (b 2 i - (x - t 1)) + xabs (b 3 i - (y - 0))) 
        · simp only [aroV, if_pos hq]
        · simp only [aroV, if_neg hq, Int32.add_zero]
      by_cases g3 : t 0 = 3
      · have g2 : ¬ t 0 = 2 := by rw [g3]; decide
        have g0 : ¬ t 0 = 0 := by rw [g3]; decide
        have he1 : eaw (t 0) * t 1 = -t 1 := by unfold eaw; simp only [if_neg g1, if_pos g3, if_neg g2, if_neg g0]; grind
        have he2 : sow (t 0) * t 1 = 0 := by unfold sow; simp only [if_neg g1, if_pos g3, if_neg g2, if_neg g0]; grind
        simp only [↓reduceIte, s_S_aroma_18, s_S_aroma_20, s_S_aroma_23, s_S_aroma_25, s_S_aroma_27, s_S_aroma_28, s_S_aroma_30, s_S_aroma_32, s_S_aroma_33, s_S_aroma_34, s_S_aroma_37, s_S_aroma_40, s_S_aroma_42, s_S_aroma_43, s_S_aroma_44, s_S_aroma_45, s_S_aroma_48, s_S_aroma_49, s_S_aroma_52, s_S_aroma_53, s_S_aroma_56, s_S_aroma_59, s_S_aroma_60, s_S_aroma_63, s_S_aroma_64, s_S_aroma_67, s_S_aroma_68, s_S_aroma_71, s_S_aroma_72, s_S_aroma_75, s_S_aroma_76, s_S_aroma_77, s_S_aroma_79, s_S_aroma_81, s_S_aroma_82, s_S_aroma_83, s_S_aroma_84, s_S_aroma_87, s_S_aroma_88, s_S_aroma_91, s_S_aroma_92, s_S_aroma_95, s_S_aroma_98, s_S_aroma_99, s_S_aroma_102, s_S_aroma_105, s_S_aroma_106, s_S_aroma_109, s_S_aroma_110, s_S_aroma_113, s_S_aroma_114, s_S_aroma_115, s_S_aroma_117, s_S_aroma_119, s_S_aroma_120, s_S_aroma_121, s_S_aroma_122, s_S_aroma_124, s_S_aroma_125, s_S_aroma_126, s_S_aroma_129, s_S_aroma_130, s_S_aroma_131, s_S_aroma_132, s_S_aroma_134, s_S_aroma_135, s_S_aroma_136, s_S_aroma_139, s_S_aroma_140, s_S_aroma_141, s_S_aroma_143, s_S_aroma_145, s_S_aroma_148, s_S_aroma_149, s_S_aroma_151, s_S_aroma_152, s_S_aroma_153, s_S_aroma_156, not_false_eq_true, Nat.reduceLT, Nat.reduceAdd, true_and, and_true, if_true, if_false, ite_true, ite_false, xnb_0, xnb_1, xnb_b, xk_v, xk_n, nlt hk (by omega), (xA_of (j_2 h)).1, (xA_of (j_2 h)).2.1, nvp hk (by omega), ncl (show i < 2147483648 by omega), if_pos hk, xrf_s, xIl_of (j_k h hk), xIf_of (j_k h hk), ic_0, ic_1, ic_2, ic_3, v5_0, v5_1, v5_2, v5_3, kf_0, kf_1, kf_2, kf_3, hc0, xf_of (j_1 h), xll_10, xlg_10_0, xlg_10_1, xlg_10_2, xlg_10_3, xlg_10_4, xlg_10_5, xlg_10_6, xlg_10_7, xlg_10_8, eq_false g1, eq_true g3, eq_false g2, eq_false g0, show nI i + 1 = nI (i + 1) from nI_ad i 1, ih, aro, if_pos hz, he1, he2, ar_h]
        by_cases hq : 0 < b 4 i - 2 * (xabs (b 2 i - (x - (-t 1))) + xabs (b 3 i - (y - 0))) 
        · simp only [aroV, if_pos hq]
        · simp only [aroV, if_neg hq, Int32.add_zero]
      by_cases g2 : t 0 = 2
      · have g0 : ¬ t 0 = 0 := by rw [g2]; decide
        have he1 : eaw (t 0) * t 1 = 0 := by unfold eaw; simp only [if_neg g1, if_neg g3, if_pos g2, if_neg g0]; grind
        have he2 : sow (t 0) * t 1 = t 1 := by unfold sow; simp only [if_neg g1, if_neg g3, if_pos g2, if_neg g0]; grind
        simp only [↓reduceIte, s_S_aroma_18, s_S_aroma_20, s_S_aroma_23, s_S_aroma_25, s_S_aroma_27, s_S_aroma_28, s_S_aroma_30, s_S_aroma_32, s_S_aroma_33, s_S_aroma_34, s_S_aroma_37, s_S_aroma_40, s_S_aroma_42, s_S_aroma_43, s_S_aroma_44, s_S_aroma_45, s_S_aroma_48, s_S_aroma_49, s_S_aroma_52, s_S_aroma_53, s_S_aroma_56, s_S_aroma_59, s_S_aroma_60, s_S_aroma_63, s_S_aroma_64, s_S_aroma_67, s_S_aroma_68, s_S_aroma_71, s_S_aroma_72, s_S_aroma_75, s_S_aroma_76, s_S_aroma_77, s_S_aroma_79, s_S_aroma_81, s_S_aroma_82, s_S_aroma_83, s_S_aroma_84, s_S_aroma_87, s_S_aroma_88, s_S_aroma_91, s_S_aroma_92, s_S_aroma_95, s_S_aroma_98, s_S_aroma_99, s_S_aroma_102, s_S_aroma_105, s_S_aroma_106, s_S_aroma_109, s_S_aroma_110, s_S_aroma_113, s_S_aroma_114, s_S_aroma_115, s_S_aroma_117, s_S_aroma_119, s_S_aroma_120, s_S_aroma_121, s_S_aroma_122, s_S_aroma_124, s_S_aroma_125, s_S_aroma_126, s_S_aroma_129, s_S_aroma_130, s_S_aroma_131, s_S_aroma_132, s_S_aroma_134, s_S_aroma_135, s_S_aroma_136, s_S_aroma_139, s_S_aroma_140, s_S_aroma_141, s_S_aroma_143, s_S_aroma_145, s_S_aroma_148, s_S_aroma_149, s_S_aroma_151, s_S_aroma_152, s_S_aroma_153, s_S_aroma_156, not_false_eq_true, Nat.reduceLT, Nat.reduceAdd, true_and, and_true, if_true, if_false, ite_true, ite_false, xnb_0, xnb_1, xnb_b, xk_v, xk_n, nlt hk (by omega), (xA_of (j_2 h)).1, (xA_of (j_2 h)).2.1, nvp hk (by omega), ncl (show i < 2147483648 by omega), if_pos hk, xrf_s, xIl_of (j_k h hk), xIf_of (j_k h hk), ic_0, ic_1, ic_2, ic_3, v5_0, v5_1, v5_2, v5_3, kf_0, kf_1, kf_2, kf_3, hc0, xf_of (j_1 h), xll_10, xlg_10_0, xlg_10_1, xlg_10_2, xlg_10_3, xlg_10_4, xlg_10_5, xlg_10_6, xlg_10_7, xlg_10_8, eq_false g1, eq_false g3, eq_true g2, eq_false g0, show nI i + 1 = nI (i + 1) from nI_ad i 1, ih, aro, if_pos hz, he1, he2, ar_h]
        by_cases hq : 0 < b 4 i - 2 * (xabs (b 2 i - (x - 0)) + xabs (b 3 i - (y - t 1))) 
        · simp only [aroV, if_pos hq]
        · simp only [aroV, if_neg hq, Int32.add_zero]
      by_cases g0 : t 0 = 0
      · skip
        have he1 : eaw (t 0) * t 1 = 0 := by unfold eaw; simp only [if_neg g1, if_neg g3, if_neg g2, if_pos g0]; grind
        have he2 : sow (t 0) * t 1 = -t 1 := by unfold sow; simp only [if_neg g1, if_neg g3, if_neg g2, if_pos g0]; grind
        simp only [↓reduceIte, s_S_aroma_18, s_S_aroma_20, s_S_aroma_23, s_S_aroma_25, s_S_aroma_27, s_S_aroma_28, s_S_aroma_30, s_S_aroma_32, s_S_aroma_33, s_S_aroma_34, s_S_aroma_37, s_S_aroma_40, s_S_aroma_42, s_S_aroma_43, s_S_aroma_44, s_S_aroma_45, s_S_aroma_48, s_S_aroma_49, s_S_aroma_52, s_S_aroma_53, s_S_aroma_56, s_S_aroma_59, s_S_aroma_60, s_S_aroma_63, s_S_aroma_64, s_S_aroma_67, s_S_aroma_68, s_S_aroma_71, s_S_aroma_72, s_S_aroma_75, s_S_aroma_76, s_S_aroma_77, s_S_aroma_79, s_S_aroma_81, s_S_aroma_82, s_S_aroma_83, s_S_aroma_84, s_S_aroma_87, s_S_aroma_88, s_S_aroma_91, s_S_aroma_92, s_S_aroma_95, s_S_aroma_98, s_S_aroma_99, s_S_aroma_102, s_S_aroma_105, s_S_aroma_106, s_S_aroma_109, s_S_aroma_110, s_S_aroma_113, s_S_aroma_114, s_S_aroma_115, s_S_aroma_117, s_S_aroma_119, s_S_aroma_120, s_S_aroma_121, s_S_aroma_122, s_S_aroma_124, s_S_aroma_125, s_S_aroma_126, s_S_aroma_129, s_S_aroma_130, s_S_aroma_131, s_S_aroma_132, s_S_aroma_134, s_S_aroma_135, s_S_aroma_136, s_S_aroma_139, s_S_aroma_140, s_S_aroma_141, s_S_aroma_143, s_S_aroma_145, s_S_aroma_148, s_S_aroma_149, s_S_aroma_151, s_S_aroma_152, s_S_aroma_153, s_S_aroma_156, not_false_eq_true, Nat.reduceLT, Nat.reduceAdd, true_and, and_true, if_true, if_false, ite_true, ite_false, xnb_0, xnb_1, xnb_b, xk_v, xk_n, nlt hk (by omega), (xA_of (j_2 h)).1, (xA_of (j_2 h)).2.1, nvp hk (by omega), ncl (show i < 2147483648 by omega), if_pos hk, xrf_s, xIl_of (j_k h hk), xIf_of (j_k h hk), ic_0, ic_1, ic_2, ic_3, v5_0, v5_1, v5_2, v5_3, kf_0, kf_1, kf_2, kf_3, hc0, xf_of (j_1 h), xll_10, xlg_10_0, xlg_10_1, xlg_10_2, xlg_10_3, xlg_10_4, xlg_10_5, xlg_10_6, xlg_10_7, xlg_10_8, eq_false g1, eq_false g3, eq_false g2, eq_true g0, show nI i + 1 = nI (i + 1) from nI_ad i 1, ih, aro, if_pos hz, he1, he2, ar_h]
        by_cases hq : 0 < b 4 i - 2 * (xabs (b 2 i - (x - 0)) + xabs (b 3 i - (y - (-t 1)))) 
        · simp only [aroV, if_pos hq]
        · simp only [aroV, if_neg hq, Int32.add_zero]
      · skip
        have he1 : eaw (t 0) * t 1 = 0 := by unfold eaw; simp only [if_neg g1, if_neg g3, if_neg g2, if_neg g0]; grind
        have he2 : sow (t 0) * t 1 = 0 := by unfold sow; simp only [if_neg g1, if_neg g3, if_neg g2, if_neg g0]; grind
        simp only [↓reduceIte, s_S_aroma_18, s_S_aroma_20, s_S_aroma_23, s_S_aroma_25, s_S_aroma_27, s_S_aroma_28, s_S_aroma_30, s_S_aroma_32, s_S_aroma_33, s_S_aroma_34, s_S_aroma_37, s_S_aroma_40, s_S_aroma_42, s_S_aroma_43, s_S_aroma_44, s_S_aroma_45, s_S_aroma_48, s_S_aroma_49, s_S_aroma_52, s_S_aroma_53, s_S_aroma_56, s_S_aroma_59, s_S_aroma_60, s_S_aroma_63, s_S_aroma_64, s_S_aroma_67, s_S_aroma_68, s_S_aroma_71, s_S_aroma_72, s_S_aroma_75, s_S_aroma_76, s_S_aroma_77, s_S_aroma_79, s_S_aroma_81, s_S_aroma_82, s_S_aroma_83, s_S_aroma_84, s_S_aroma_87, s_S_aroma_88, s_S_aroma_91, s_S_aroma_92, s_S_aroma_95, s_S_aroma_98, s_S_aroma_99, s_S_aroma_102, s_S_aroma_105, s_S_aroma_106, s_S_aroma_109, s_S_aroma_110, s_S_aroma_113, s_S_aroma_114, s_S_aroma_115, s_S_aroma_117, s_S_aroma_119, s_S_aroma_120, s_S_aroma_121, s_S_aroma_122, s_S_aroma_124, s_S_aroma_125, s_S_aroma_126, s_S_aroma_129, s_S_aroma_130, s_S_aroma_131, s_S_aroma_132, s_S_aroma_134, s_S_aroma_135, s_S_aroma_136, s_S_aroma_139, s_S_aroma_140, s_S_aroma_141, s_S_aroma_143, s_S_aroma_145, s_S_aroma_148, s_S_aroma_149, s_S_aroma_151, s_S_aroma_152, s_S_aroma_153, s_S_aroma_156, not_false_eq_true, Nat.reduceLT, Nat.reduceAdd, true_and, and_true, if_true, if_false, ite_true, ite_false, xnb_0, xnb_1, xnb_b, xk_v, xk_n, nlt hk (by omega), (xA_of (j_2 h)).1, (xA_of (j_2 h)).2.1, nvp hk (by omega), ncl (show i < 2147483648 by omega), if_pos hk, xrf_s, xIl_of (j_k h hk), xIf_of (j_k h hk), ic_0, ic_1, ic_2, ic_3, v5_0, v5_1, v5_2, v5_3, kf_0, kf_1, kf_2, kf_3, hc0, xf_of (j_1 h), xll_10, xlg_10_0, xlg_10_1, xlg_10_2, xlg_10_3, xlg_10_4, xlg_10_5, xlg_10_6, xlg_10_7, xlg_10_8, eq_false g1, eq_false g3, eq_false g2, eq_false g0, show nI i + 1 = nI (i + 1) from nI_ad i 1, ih, aro, if_pos hz, he1, he2, ar_h]
        by_cases hq : 0 < b 4 i - 2 * (xabs (b 2 i - (x - 0)) + xabs (b 3 i - (y - 0))) 
        · simp only [aroV, if_pos hq]
        · simp only [aroV, if_neg hq, Int32.add_zero]
theorem f_S_aroma (h : jOK ad ro nk nc nn lo hi) (hb : ∀ k, k < nk → ¬ a 0 k < 0) : xcall E xprog (d + 1) 113 [.ref (ad 1), .int x, .int y] (jH ad ro b s nk nc nn ru H a t) Q = Q (.inl (some (.int (aroC a t b nk x y))), (jH ad ro b s nk nc nn ru H a t)) := by
  have := h.1
  rw [e_S_aroma]
  simp only [s_S_aroma_0, s_S_aroma_1, s_S_aroma_2, s_S_aroma_3, s_S_aroma_6, s_S_aroma_8, s_S_aroma_10, s_S_aroma_11, s_S_aroma_13, s_S_aroma_14, not_false_eq_true, Nat.reduceLT, Nat.reduceAdd, true_and, and_true, if_true, if_false, ite_true, ite_false, xnb_0, xnb_1, xnb_b, xk_v, xk_n, xf_of (j_1 h), xll_10, xlg_10_0, xlg_10_1, xlg_10_2, xlg_10_3, xlg_10_4, xlg_10_5, xlg_10_6, xlg_10_7, xlg_10_8, xln_A (j_2 h), Option.isSome_some, Option.getD_some, show (0 : Int32) = nI 0 from rfl]
  exact l_S_ar h hb nk 0 0 _ _ _ _ (by omega)
theorem f_S_speed (h : jOK ad ro nk nc nn lo hi) (hc : c < nn) : xcall E xprog (d + 1) 116 [.ref (ad 1), .int (nI c)] (jH ad ro b s nk nc nn ru H a t) Q = Q (.inl (some (.int (spdC a t c))), (jH ad ro b s nk nc nn ru H a t)) := by
  have := h.2.2.1
  rw [e_S_speed]
  unfold spdC
  by_cases z : t 1 = 0
  · simp only [↓reduceIte, s_S_speed_0, s_S_speed_2, s_S_speed_3, s_S_speed_6, s_S_speed_7, s_S_speed_8, s_S_speed_9, s_S_speed_10, s_S_speed_11, s_S_speed_12, s_S_speed_13, s_S_speed_14, s_S_speed_17, s_S_speed_20, s_S_speed_21, s_S_speed_24, s_S_speed_25, s_S_speed_26, not_false_eq_true, Nat.reduceLT, Nat.reduceAdd, true_and, and_true, if_true, if_false, ite_true, ite_false, xnb_0, xnb_1, xnb_b, xk_v, xk_n, xf_of (j_1 h), xll_10, xlg_10_0, xlg_10_1, xlg_10_2, xlg_10_3, xlg_10_4, xlg_10_5, xlg_10_6, xlg_10_7, xlg_10_8, (xA_of (j_4 h)).1, (xA_of (j_4 h)).2.1, nvp hc (by omega), ncl (show c < 2147483648 by omega), if_pos hc, xrf_s, xIl_of (j_c h hc), xIf_of (j_c h hc), ic_5, v9_5, cf_5, eq_true z, show ((5 : Int32) = 0) = False from eq_false (by decide), show ((2 : Int32) = 0) = False from eq_false (by decide)]
  · simp only [↓reduceIte, s_S_speed_0, s_S_speed_2, s_S_speed_3, s_S_speed_6, s_S_speed_7, s_S_speed_8, s_S_speed_9, s_S_speed_10, s_S_speed_11, s_S_speed_12, s_S_speed_13, s_S_speed_14, s_S_speed_17, s_S_speed_20, s_S_speed_21, s_S_speed_24, s_S_speed_25, s_S_speed_26, not_false_eq_true, Nat.reduceLT, Nat.reduceAdd, true_and, and_true, if_true, if_false, ite_true, ite_false, xnb_0, xnb_1, xnb_b, xk_v, xk_n, xf_of (j_1 h), xll_10, xlg_10_0, xlg_10_1, xlg_10_2, xlg_10_3, xlg_10_4, xlg_10_5, xlg_10_6, xlg_10_7, xlg_10_8, (xA_of (j_4 h)).1, (xA_of (j_4 h)).2.1, nvp hc (by omega), ncl (show c < 2147483648 by omega), if_pos hc, xrf_s, xIl_of (j_c h hc), xIf_of (j_c h hc), ic_5, v9_5, cf_5, eq_false z, show ((5 : Int32) = 0) = False from eq_false (by decide), show ((1 : Int32) = 0) = False from eq_false (by decide), Int32.div_one]
/-- beside a cell of the bay: out of it, or in it -/
theorem edge0 {u n : Nat} (hu : u < n) (hn : n ≤ 12) {e : Int32} (he : e = 1 ∨ e = -1 ∨ e = 0) : nI u + e < 0 ∨ nI u + e = nI n ∨ nI u + e < nI n := by
  have p1 : ∀ u, u < 12 → ∀ n, n < 13 → u < n → nI u + 1 < 0 ∨ nI u + 1 = nI n ∨ nI u + 1 < nI n := by decide +kernel
  have p2 : ∀ u, u < 12 → ∀ n, n < 13 → u < n → nI u + -1 < 0 ∨ nI u + -1 = nI n ∨ nI u + -1 < nI n := by decide +kernel
  rcases he with h | h | h
  · subst h; exact p1 u (by omega) n (by omega) hu
  · subst h; exact p2 u (by omega) n (by omega) hu
  · subst h; rw [Int32.add_zero]; exact Or.inr (Or.inr (by rw [nlt hu (by omega)]; trivial))
theorem edge {u n : Nat} (hu : u < n) (hn : n ≤ 12) {e : Int32} (he : e = 1 ∨ e = -1 ∨ e = 0) : (nI u + e < 0 ∧ ¬ nI u + e = nI n) ∨ (¬ nI u + e < 0 ∧ nI u + e = nI n) ∨ (¬ nI u + e < 0 ∧ ¬ nI u + e = nI n ∧ nI u + e < nI n) := by
  have hz : ¬ nI n < 0 := by rw [nI_n0 n (by omega)]; exact id
  by_cases h : nI u + e < 0
  · exact Or.inl ⟨h, fun z => hz (z ▸ h)⟩
  · rcases edge0 hu hn he with z | z | z
    · exact absurd z h
    · exact Or.inr (Or.inl ⟨h, z⟩)
    · exact Or.inr (Or.inr ⟨h, fun q => Int32.lt_irrefl (q ▸ z), z⟩)
/-- what a clipper smells -/
theorem f_S_smell {co ro' : Nat} (h : jOK ad ro nk nc nn lo hi) (hb : ∀ k, k < nk → ¬ a 0 k < 0) (hc : c < nn) (h0 : s 0 = nI co) (h1 : s 1 = nI ro') (hco : co ≤ 12) (hro : ro' ≤ 12) (hx : ∃ u, u < co ∧ a 3 c = nI u) (hy : ∃ u, u < ro' ∧ a 4 c = nI u) : xcall E xprog (d + 2) 114 [.ref (ad 1), .int (nI c), .int x] (jH ad ro b s nk nc nn ru H a t) Q = Q (.inl (some (.int (smeC a b t s nk c x))), (jH ad ro b s nk nc nn ru H a t)) := by
  have := h.2.2.1
  obtain ⟨u, u1, u2⟩ := hx
  obtain ⟨w, w1, w2⟩ := hy
  have ex := edge u1 hco (e := eaw x) (eaw_b x)
  have ey := edge w1 hro (e := sow x) (sow_b x)
  rw [e_S_smell]
  have main : xr E (d + 1) m_S_smell Q (0, [some (.ref (ad 1)), some (.int (nI c)), some (.int x), none, none, none, none], [], (jH ad ro b s nk nc nn ru H a t)) = xr E (d + 1) m_S_smell Q (56, [some (.ref (ad 1)), some (.int (nI c)), some (.int x), some (.ref (ad (20 + c))), some (.int (a 3 c + eaw x)), some (.int (a 4 c + sow x)), none], [], (jH ad ro b s nk nc nn ru H a t)) := by
    by_cases g1 : x = 1
    · have q1 : eaw x = 1 := by unfold eaw; simp only [if_pos g1]
      have q2 : sow x = 0 := by subst g1; rfl
      simp only [↓reduceIte, s_S_smell_0, s_S_smell_1, s_S_smell_4, s_S_smell_5, s_S_smell_6, s_S_smell_7, s_S_smell_8, s_S_smell_9, s_S_smell_10, s_S_smell_11, s_S_smell_12, s_S_smell_15, s_S_smell_16, s_S_smell_19, s_S_smell_20, s_S_smell_21, s_S_smell_24, s_S_smell_25, s_S_smell_28, s_S_smell_29, s_S_smell_30, s_S_smell_32, s_S_smell_33, s_S_smell_34, s_S_smell_35, s_S_smell_36, s_S_smell_37, s_S_smell_40, s_S_smell_41, s_S_smell_44, s_S_smell_45, s_S_smell_48, s_S_smell_49, s_S_smell_52, s_S_smell_53, s_S_smell_54, not_false_eq_true, Nat.reduceLT, Nat.reduceAdd, true_and, and_true, if_true, if_false, ite_true, ite_false, xnb_0, xnb_1, xnb_b, xk_v, xk_n, xf_of (j_1 h), xll_10, xlg_10_0, xlg_10_1, xlg_10_2, xlg_10_3, xlg_10_4, xlg_10_5, xlg_10_6, xlg_10_7, xlg_10_8, (xA_of (j_4 h)).1, (xA_of (j_4 h)).2.1, nvp hc (by omega), ncl (show c < 2147483648 by omega), if_pos hc, xrf_s, xIl_of (j_c h hc), xIf_of (j_c h hc), ic_3, ic_4, v9_3, v9_4, cf_3, cf_4, eq_true g1, show (x = 2) = False from eq_false (by rw [g1]; decide), show (x = 0) = False from eq_false (by rw [g1]; decide), q1, q2]
    by_cases g3 : x = 3
    · have q1 : eaw x = -1 := by subst g3; rfl
      have q2 : sow x = 0 := by subst g3; rfl
      simp only [↓reduceIte, s_S_smell_0, s_S_smell_1, s_S_smell_4, s_S_smell_5, s_S_smell_6, s_S_smell_7, s_S_smell_8, s_S_smell_9, s_S_smell_10, s_S_smell_11, s_S_smell_12, s_S_smell_15, s_S_smell_16, s_S_smell_19, s_S_smell_20, s_S_smell_21, s_S_smell_24, s_S_smell_25, s_S_smell_28, s_S_smell_29, s_S_smell_30, s_S_smell_32, s_S_smell_33, s_S_smell_34, s_S_smell_35, s_S_smell_36, s_S_smell_37, s_S_smell_40, s_S_smell_41, s_S_smell_44, s_S_smell_45, s_S_smell_48, s_S_smell_49, s_S_smell_52, s_S_smell_53, s_S_smell_54, not_false_eq_true, Nat.reduceLT, Nat.reduceAdd, true_and, and_true, if_true, if_false, ite_true, ite_false, xnb_0, xnb_1, xnb_b, xk_v, xk_n, xf_of (j_1 h), xll_10, xlg_10_0, xlg_10_1, xlg_10_2, xlg_10_3, xlg_10_4, xlg_10_5, xlg_10_6, xlg_10_7, xlg_10_8, (xA_of (j_4 h)).1, (xA_of (j_4 h)).2.1, nvp hc (by omega), ncl (show c < 2147483648 by omega), if_pos hc, xrf_s, xIl_of (j_c h hc), xIf_of (j_c h hc), ic_3, ic_4, v9_3, v9_4, cf_3, cf_4, eq_false g1, eq_true g3, show (x = 2) = False from eq_false (by rw [g3]; decide), show (x = 0) = False from eq_false (by rw [g3]; decide), q1, q2]
    by_cases g2 : x = 2
    · have q1 : eaw x = 0 := by subst g2; rfl
      have q2 : sow x = 1 := by subst g2; rfl
      simp only [↓reduceIte, s_S_smell_0, s_S_smell_1, s_S_smell_4, s_S_smell_5, s_S_smell_6, s_S_smell_7, s_S_smell_8, s_S_smell_9, s_S_smell_10, s_S_smell_11, s_S_smell_12, s_S_smell_15, s_S_smell_16, s_S_smell_19, s_S_smell_20, s_S_smell_21, s_S_smell_24, s_S_smell_25, s_S_smell_28, s_S_smell_29, s_S_smell_30, s_S_smell_32, s_S_smell_33, s_S_smell_34, s_S_smell_35, s_S_smell_36, s_S_smell_37, s_S_smell_40, s_S_smell_41, s_S_smell_44, s_S_smell_45, s_S_smell_48, s_S_smell_49, s_S_smell_52, s_S_smell_53, s_S_smell_54, not_false_eq_true, Nat.reduceLT, Nat.reduceAdd, true_and, and_true, if_true, if_false, ite_true, ite_false, xnb_0, xnb_1, xnb_b, xk_v, xk_n, xf_of (j_1 h), xll_10, xlg_10_0, xlg_10_1, xlg_10_2, xlg_10_3, xlg_10_4, xlg_10_5, xlg_10_6, xlg_10_7, xlg_10_8, (xA_of (j_4 h)).1, (xA_of (j_4 h)).2.1, nvp hc (by omega), ncl (show c < 2147483648 by omega), if_pos hc, xrf_s, xIl_of (j_c h hc), xIf_of (j_c h hc), ic_3, ic_4, v9_3, v9_4, cf_3, cf_4, eq_false g1, eq_false g3, eq_true g2, q1, q2]
    by_cases g0 : x = 0
    · have q1 : eaw x = 0 := by subst g0; rfl
      have q2 : sow x = -1 := by subst g0; rfl
      simp only [↓reduceIte, s_S_smell_0, s_S_smell_1, s_S_smell_4, s_S_smell_5, s_S_smell_6, s_S_smell_7, s_S_smell_8, s_S_smell_9, s_S_smell_10, s_S_smell_11, s_S_smell_12, s_S_smell_15, s_S_smell_16, s_S_smell_19, s_S_smell_20, s_S_smell_21, s_S_smell_24, s_S_smell_25, s_S_smell_28, s_S_smell_29, s_S_smell_30, s_S_smell_32, s_S_smell_33, s_S_smell_34, s_S_smell_35, s_S_smell_36, s_S_smell_37, s_S_smell_40, s_S_smell_41, s_S_smell_44, s_S_smell_45, s_S_smell_48, s_S_smell_49, s_S_smell_52, s_S_smell_53, s_S_smell_54, not_false_eq_true, Nat.reduceLT, Nat.reduceAdd, true_and, and_true, if_true, if_false, ite_true, ite_false, xnb_0, xnb_1, xnb_b, xk_v, xk_n, xf_of (j_1 h), xll_10, xlg_10_0, xlg_10_1, xlg_10_2, xlg_10_3, xlg_10_4, xlg_10_5, xlg_10_6, xlg_10_7, xlg_10_8, (xA_of (j_4 h)).1, (xA_of (j_4 h)).2.1, nvp hc (by omega), ncl (show c < 2147483648 by omega), if_pos hc, xrf_s, xIl_of (j_c h hc), xIf_of (j_c h hc), ic_3, ic_4, v9_3, v9_4, cf_3, cf_4, eq_false g1, eq_false g3, eq_false g2, eq_true g0, q1, q2]
    · have q1 : eaw x = 0 := by unfold eaw; simp only [if_neg g1, if_neg g3]
      have q2 : sow x = 0 := by unfold sow; simp only [if_neg g2, if_neg g0]
      simp only [↓reduceIte, s_S_smell_0, s_S_smell_1, s_S_smell_4, s_S_smell_5, s_S_smell_6, s_S_smell_7, s_S_smell_8, s_S_smell_9, s_S_smell_10, s_S_smell_11, s_S_smell_12, s_S_smell_15, s_S_smell_16, s_S_smell_19, s_S_smell_20, s_S_smell_21, s_S_smell_24, s_S_smell_25, s_S_smell_28, s_S_smell_29, s_S_smell_30, s_S_smell_32, s_S_smell_33, s_S_smell_34, s_S_smell_35, s_S_smell_36, s_S_smell_37, s_S_smell_40, s_S_smell_41, s_S_smell_44, s_S_smell_45, s_S_smell_48, s_S_smell_49, s_S_smell_52, s_S_smell_53, s_S_smell_54, not_false_eq_true, Nat.reduceLT, Nat.reduceAdd, true_and, and_true, if_true, if_false, ite_true, ite_false, xnb_0, xnb_1, xnb_b, xk_v, xk_n, xf_of (j_1 h), xll_10, xlg_10_0, xlg_10_1, xlg_10_2, xlg_10_3, xlg_10_4, xlg_10_5, xlg_10_6, xlg_10_7, xlg_10_8, (xA_of (j_4 h)).1, (xA_of (j_4 h)).2.1, nvp hc (by omega), ncl (show c < 2147483648 by omega), if_pos hc, xrf_s, xIl_of (j_c h hc), xIf_of (j_c h hc), ic_3, ic_4, v9_3, v9_4, cf_3, cf_4, eq_false g1, eq_false g3, eq_false g2, eq_false g0, q1, q2]
  refine main.trans ?_
  have har := fun (x y : Int32) (Q : xR → Prop) => f_S_aroma (E := E) (d := d) (x := x) (y := y) (Q := Q) (t := t) (b := b) (s := s) (ru := ru) (H := H) h hb
  unfold smeC
  rw [u2, w2]
  have out : ∀ {P : Prop} [Decidable P], ¬ P → xb P = 0 := fun h => by unfold xb; rw [if_neg h]
  rcases ex with ⟨x1, x2⟩ | ⟨x1, x2⟩ | ⟨x1, x2, x3⟩
  · rw [if_pos (show celC s (nI u + eaw x) (nI w + sow x) = 0 from out fun z => z.1 x1)]
    simp only [↓reduceIte, s_S_smell_56, s_S_smell_58, s_S_smell_61, s_S_smell_63, s_S_smell_66, s_S_smell_68, s_S_smell_69, s_S_smell_72, s_S_smell_75, s_S_smell_77, s_S_smell_78, s_S_smell_81, s_S_smell_84, s_S_smell_85, s_S_smell_86, s_S_smell_87, s_S_smell_89, s_S_smell_91, s_S_smell_94, s_S_smell_96, s_S_smell_98, s_S_smell_99, s_S_smell_100, s_S_smell_101, s_S_smell_102, s_S_smell_103, s_S_smell_106, s_S_smell_107, s_S_smell_108, s_S_smell_109, s_S_smell_110, s_S_smell_111, s_S_smell_114, s_S_smell_116, not_false_eq_true, Nat.reduceLT, Nat.reduceAdd, true_and, and_true, if_true, if_false, ite_true, ite_false, xnb_0, xnb_1, xnb_b, xk_v, xk_n, xf_of (j_1 h), xc_of (j_1 h), xll_10, xlg_10_0, xlg_10_1, xlg_10_2, xlg_10_3, xlg_10_4, xlg_10_5, xlg_10_6, xlg_10_7, xlg_10_8, eq_true x1]
  · rw [if_pos (show celC s (nI u + eaw x) (nI w + sow x) = 0 from out fun z => by have e := z.2.1; rw [h0, x2] at e; exact Int32.lt_irrefl e)]
    by_cases y1 : nI w + sow x < 0
    · simp only [↓reduceIte, s_S_smell_56, s_S_smell_58, s_S_smell_61, s_S_smell_63, s_S_smell_66, s_S_smell_68, s_S_smell_69, s_S_smell_72, s_S_smell_75, s_S_smell_77, s_S_smell_78, s_S_smell_81, s_S_smell_84, s_S_smell_85, s_S_smell_86, s_S_smell_87, s_S_smell_89, s_S_smell_91, s_S_smell_94, s_S_smell_96, s_S_smell_98, s_S_smell_99, s_S_smell_100, s_S_smell_101, s_S_smell_102, s_S_smell_103, s_S_smell_106, s_S_smell_107, s_S_smell_108, s_S_smell_109, s_S_smell_110, s_S_smell_111, s_S_smell_114, s_S_smell_116, not_false_eq_true, Nat.reduceLT, Nat.reduceAdd, true_and, and_true, if_true, if_false, ite_true, ite_false, xnb_0, xnb_1, xnb_b, xk_v, xk_n, xf_of (j_1 h), xc_of (j_1 h), xll_10, xlg_10_0, xlg_10_1, xlg_10_2, xlg_10_3, xlg_10_4, xlg_10_5, xlg_10_6, xlg_10_7, xlg_10_8, eq_false x1, eq_true y1]
    · simp only [↓reduceIte, s_S_smell_56, s_S_smell_58, s_S_smell_61, s_S_smell_63, s_S_smell_66, s_S_smell_68, s_S_smell_69, s_S_smell_72, s_S_smell_75, s_S_smell_77, s_S_smell_78, s_S_smell_81, s_S_smell_84, s_S_smell_85, s_S_smell_86, s_S_smell_87, s_S_smell_89, s_S_smell_91, s_S_smell_94, s_S_smell_96, s_S_smell_98, s_S_smell_99, s_S_smell_100, s_S_smell_101, s_S_smell_102, s_S_smell_103, s_S_smell_106, s_S_smell_107, s_S_smell_108, s_S_smell_109, s_S_smell_110, s_S_smell_111, s_S_smell_114, s_S_smell_116, not_false_eq_true, Nat.reduceLT, Nat.reduceAdd, true_and, and_true, if_true, if_false, ite_true, ite_false, xnb_0, xnb_1, xnb_b, xk_v, xk_n, xf_of (j_1 h), xc_of (j_1 h), xll_10, xlg_10_0, xlg_10_1, xlg_10_2, xlg_10_3, xlg_10_4, xlg_10_5, xlg_10_6, xlg_10_7, xlg_10_8, eq_false x1, eq_false y1, h0, eq_true x2]
  · rcases ey with ⟨y1, y2⟩ | ⟨y1, y2⟩ | ⟨y1, y2, y3⟩
    · rw [if_pos (show celC s (nI u + eaw x) (nI w + sow x) = 0 from out fun z => z.2.2.1 y1)]
      simp only [↓reduceIte, s_S_smell_56, s_S_smell_58, s_S_smell_61, s_S_smell_63, s_S_smell_66, s_S_smell_68, s_S_smell_69, s_S_smell_72, s_S_smell_75, s_S_smell_77, s_S_smell_78, s_S_smell_81, s_S_smell_84, s_S_smell_85, s_S_smell_86, s_S_smell_87, s_S_smell_89, s_S_smell_91, s_S_smell_94, s_S_smell_96, s_S_smell_98, s_S_smell_99, s_S_smell_100, s_S_smell_101, s_S_smell_102, s_S_smell_103, s_S_smell_106, s_S_smell_107, s_S_smell_108, s_S_smell_109, s_S_smell_110, s_S_smell_111, s_S_smell_114, s_S_smell_116, not_false_eq_true, Nat.reduceLT, Nat.reduceAdd, true_and, and_true, if_true, if_false, ite_true, ite_false, xnb_0, xnb_1, xnb_b, xk_v, xk_n, xf_of (j_1 h), xc_of (j_1 h), xll_10, xlg_10_0, xlg_10_1, xlg_10_2, xlg_10_3, xlg_10_4, xlg_10_5, xlg_10_6, xlg_10_7, xlg_10_8, eq_false x1, eq_true y1]
    · rw [if_pos (show celC s (nI u + eaw x) (nI w + sow x) = 0 from out fun z => by have e := z.2.2.2; rw [h1, y2] at e; exact Int32.lt_irrefl e)]
      simp only [↓reduceIte, s_S_smell_56, s_S_smell_58, s_S_smell_61, s_S_smell_63, s_S_smell_66, s_S_smell_68, s_S_smell_69, s_S_smell_72, s_S_smell_75, s_S_smell_77, s_S_smell_78, s_S_smell_81, s_S_smell_84, s_S_smell_85, s_S_smell_86, s_S_smell_87, s_S_smell_89, s_S_smell_91, s_S_smell_94, s_S_smell_96, s_S_smell_98, s_S_smell_99, s_S_smell_100, s_S_smell_101, s_S_smell_102, s_S_smell_103, s_S_smell_106, s_S_smell_107, s_S_smell_108, s_S_smell_109, s_S_smell_110, s_S_smell_111, s_S_smell_114, s_S_smell_116, not_false_eq_true, Nat.reduceLT, Nat.reduceAdd, true_and, and_true, if_true, if_false, ite_true, ite_false, xnb_0, xnb_1, xnb_b, xk_v, xk_n, xf_of (j_1 h), xc_of (j_1 h), xll_10, xlg_10_0, xlg_10_1, xlg_10_2, xlg_10_3, xlg_10_4, xlg_10_5, xlg_10_6, xlg_10_7, xlg_10_8, eq_false x1, eq_false y1, h0, h1, eq_false x2, eq_true y2]
    · have hh : ¬ celC s (nI u + eaw x) (nI w + sow x) = 0 := by
        unfold celC xb
        rw [h0, h1, if_pos ⟨x1, x3, y1, y3⟩]; decide
      rw [if_neg hh]
      by_cases g : 5 * b 9 c < aroC a t b nk (nI u + eaw x) (nI w + sow x)
      · simp only [↓reduceIte, s_S_smell_56, s_S_smell_58, s_S_smell_61, s_S_smell_63, s_S_smell_66, s_S_smell_68, s_S_smell_69, s_S_smell_72, s_S_smell_75, s_S_smell_77, s_S_smell_78, s_S_smell_81, s_S_smell_84, s_S_smell_85, s_S_smell_86, s_S_smell_87, s_S_smell_89, s_S_smell_91, s_S_smell_94, s_S_smell_96, s_S_smell_98, s_S_smell_99, s_S_smell_100, s_S_smell_101, s_S_smell_102, s_S_smell_103, s_S_smell_106, s_S_smell_107, s_S_smell_108, s_S_smell_109, s_S_smell_110, s_S_smell_111, s_S_smell_114, s_S_smell_116, not_false_eq_true, Nat.reduceLT, Nat.reduceAdd, true_and, and_true, if_true, if_false, ite_true, ite_false, xnb_0, xnb_1, xnb_b, xk_v, xk_n, xf_of (j_1 h), xc_of (j_1 h), xll_10, xlg_10_0, xlg_10_1, xlg_10_2, xlg_10_3, xlg_10_4, xlg_10_5, xlg_10_6, xlg_10_7, xlg_10_8, eq_false x1, eq_false y1, h0, h1, eq_false x2, eq_false y2, har, xIl_of (j_c h hc), xIf_of (j_c h hc), ic_2, v9_2, cf_2, eq_true g]
      · simp only [↓reduceIte, s_S_smell_56, s_S_smell_58, s_S_smell_61, s_S_smell_63, s_S_smell_66, s_S_smell_68, s_S_smell_69, s_S_smell_72, s_S_smell_75, s_S_smell_77, s_S_smell_78, s_S_smell_81, s_S_smell_84, s_S_smell_85, s_S_smell_86, s_S_smell_87, s_S_smell_89, s_S_smell_91, s_S_smell_94, s_S_smell_96, s_S_smell_98, s_S_smell_99, s_S_smell_100, s_S_smell_101, s_S_smell_102, s_S_smell_103, s_S_smell_106, s_S_smell_107, s_S_smell_108, s_S_smell_109, s_S_smell_110, s_S_smell_111, s_S_smell_114, s_S_smell_116, not_false_eq_true, Nat.reduceLT, Nat.reduceAdd, true_and, and_true, if_true, if_false, ite_true, ite_false, xnb_0, xnb_1, xnb_b, xk_v, xk_n, xf_of (j_1 h), xc_of (j_1 h), xll_10, xlg_10_0, xlg_10_1, xlg_10_2, xlg_10_3, xlg_10_4, xlg_10_5, xlg_10_6, xlg_10_7, xlg_10_8, eq_false x1, eq_false y1, h0, h1, eq_false x2, eq_false y2, har, xIl_of (j_c h hc), xIf_of (j_c h hc), ic_2, v9_2, cf_2, eq_false g]
end SIM2
